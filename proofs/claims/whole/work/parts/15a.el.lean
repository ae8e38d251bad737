/-! what each instruction does -/
section EL
variable {sa : aS} {F : aF} {N S : Nat} {rt : Option FieldType} {P : aK} {Q : aQ} {L : aL} {st : List Value} {h : aH}
theorem e0_0 : exq sa F N S rt cd0 P Q 0 L st h = (ldR L 0 fun v => P 1 L (v :: st) h) := rfl
theorem e0_1 : exq sa F N S rt cd0 P Q 1 L st h = (ex1 sa F N S rt P Q 1 L st h (.invokespecial 1) 3 0 1 0) := rfl
theorem e0_4 : exq sa F N S rt cd0 P Q 4 L st h = (ldR L 0 fun v => P 5 L (v :: st) h) := rfl
theorem e0_5 : exq sa F N S rt cd0 P Q 5 L st h = (P 7 L (.int (Int32.ofInt (24)) :: st) h) := rfl
theorem e0_7 : exq sa F N S rt cd0 P Q 7 L st h = (ex1 sa F N S rt P Q 7 L st h (.anewarray 9) 0 0 0 0) := rfl
theorem e0_10 : exq sa F N S rt cd0 P Q 10 L st h = (pfd st h 0 0 2 fun s h' => P 13 L s h') := rfl
theorem e0_13 : exq sa F N S rt cd0 P Q 13 L st h = (P 14 L (.int (Int32.ofInt (0)) :: st) h) := rfl
theorem e0_14 : exq sa F N S rt cd0 P Q 14 L st h = (tI st fun v s => lvS L 1 (.int v) fun L' => P 15 L' s h) := rfl
theorem e0_15 : exq sa F N S rt cd0 P Q 15 L st h = (ldI L 1 fun v => P 16 L (.int v :: st) h) := rfl
theorem e0_16 : exq sa F N S rt cd0 P Q 16 L st h = (P 18 L (.int (Int32.ofInt (24)) :: st) h) := rfl
theorem e0_18 : exq sa F N S rt cd0 P Q 18 L st h = (tI st fun b s => tI s fun a s => br (b ≤ a) (P 40 L s h) (P 21 L s h)) := rfl
theorem e0_21 : exq sa F N S rt cd0 P Q 21 L st h = (ldR L 0 fun v => P 22 L (v :: st) h) := rfl
theorem e0_22 : exq sa F N S rt cd0 P Q 22 L st h = (tR st fun a s => opt (hO h a 0) fun fs => opt (fs[0]?) fun v => P 25 L (v :: s) h) := rfl
theorem e0_25 : exq sa F N S rt cd0 P Q 25 L st h = (ldI L 1 fun v => P 26 L (.int v :: st) h) := rfl
theorem e0_26 : exq sa F N S rt cd0 P Q 26 L st h = (ex1 sa F N S rt P Q 26 L st h (.new 9) 2 15 0 0) := rfl
theorem e0_29 : exq sa F N S rt cd0 P Q 29 L st h = (du1 st fun v s => P 30 L (v :: v :: s) h) := rfl
theorem e0_30 : exq sa F N S rt cd0 P Q 30 L st h = (ex1 sa F N S rt P Q 30 L st h (.invokespecial 15) 12 11 1 2) := rfl
theorem e0_33 : exq sa F N S rt cd0 P Q 33 L st h = (ex1 sa F N S rt P Q 33 L st h (.aastore) 0 0 0 0) := rfl
theorem e0_34 : exq sa F N S rt cd0 P Q 34 L st h = (ldI L 1 fun v => lvS L 1 (.int (v + Int32.ofInt (1))) fun L' => P 37 L' st h) := rfl
theorem e0_37 : exq sa F N S rt cd0 P Q 37 L st h = (P 15 L st h) := rfl
theorem e0_40 : exq sa F N S rt cd0 P Q 40 L st h = (st = [] ∧ rt = none ∧ Q none h) := rfl
theorem e1_0 : exq sa F N S rt cd1 P Q 0 L st h = (ldR L 0 fun v => P 1 L (v :: st) h) := rfl
theorem e1_1 : exq sa F N S rt cd1 P Q 1 L st h = (P 2 L (.int (Int32.ofInt (0)) :: st) h) := rfl
theorem e1_2 : exq sa F N S rt cd1 P Q 2 L st h = (pfd st h 0 2 0 fun s h' => P 5 L s h') := rfl
theorem e1_5 : exq sa F N S rt cd1 P Q 5 L st h = (st = [] ∧ rt = none ∧ Q none h) := rfl
theorem e2_0 : exq sa F N S rt cd2 P Q 0 L st h = (ldR L 0 fun v => P 1 L (v :: st) h) := rfl
theorem e2_1 : exq sa F N S rt cd2 P Q 1 L st h = (tR st fun a s => opt (hO h a 0) fun fs => opt (fs[0]?) fun v => P 4 L (v :: s) h) := rfl
theorem e2_4 : exq sa F N S rt cd2 P Q 4 L st h = (ldR L 0 fun v => P 5 L (v :: st) h) := rfl
theorem e2_5 : exq sa F N S rt cd2 P Q 5 L st h = (tR st fun a s => opt (hO h a 0) fun fs => opt (fs[1]?) fun v => P 8 L (v :: s) h) := rfl
theorem e2_8 : exq sa F N S rt cd2 P Q 8 L st h = (tI st fun i s => tR s fun a s => opt (hR h a) fun q => ix i q.2.1 fun k => opt (q.2.2 k) fun v => P 9 L (.ref v :: s) h) := rfl
theorem e2_9 : exq sa F N S rt cd2 P Q 9 L st h = (ldR L 1 fun v => P 10 L (v :: st) h) := rfl
theorem e2_10 : exq sa F N S rt cd2 P Q 10 L st h = (ivV F 15 2 2 st h fun r s h' => P 13 L (pu r s) h') := rfl
theorem e2_13 : exq sa F N S rt cd2 P Q 13 L st h = (ldR L 0 fun v => P 14 L (v :: st) h) := rfl
theorem e2_14 : exq sa F N S rt cd2 P Q 14 L st h = (ldR L 0 fun v => P 15 L (v :: st) h) := rfl
theorem e2_15 : exq sa F N S rt cd2 P Q 15 L st h = (tR st fun a s => opt (hO h a 0) fun fs => opt (fs[1]?) fun v => P 18 L (v :: s) h) := rfl
theorem e2_18 : exq sa F N S rt cd2 P Q 18 L st h = (P 19 L (.int (Int32.ofInt (1)) :: st) h) := rfl
theorem e2_19 : exq sa F N S rt cd2 P Q 19 L st h = (tI st fun b s => tI s fun a s => P 20 L (.int (a + b) :: s) h) := rfl
theorem e2_20 : exq sa F N S rt cd2 P Q 20 L st h = (P 22 L (.int (Int32.ofInt (24)) :: st) h) := rfl
theorem e2_22 : exq sa F N S rt cd2 P Q 22 L st h = (tI st fun b s => tI s fun a s => ¬ b = 0 ∧ P 23 L (.int (a - a / b * b) :: s) h) := rfl
theorem e2_23 : exq sa F N S rt cd2 P Q 23 L st h = (pfd st h 0 1 0 fun s h' => P 26 L s h') := rfl
theorem e2_26 : exq sa F N S rt cd2 P Q 26 L st h = (ldR L 0 fun v => P 27 L (v :: st) h) := rfl
theorem e2_27 : exq sa F N S rt cd2 P Q 27 L st h = (P 29 L (.int (Int32.ofInt (24)) :: st) h) := rfl
theorem e2_29 : exq sa F N S rt cd2 P Q 29 L st h = (ldR L 0 fun v => P 30 L (v :: st) h) := rfl
theorem e2_30 : exq sa F N S rt cd2 P Q 30 L st h = (tR st fun a s => opt (hO h a 0) fun fs => opt (fs[2]?) fun v => P 33 L (v :: s) h) := rfl
theorem e2_33 : exq sa F N S rt cd2 P Q 33 L st h = (P 34 L (.int (Int32.ofInt (1)) :: st) h) := rfl
theorem e2_34 : exq sa F N S rt cd2 P Q 34 L st h = (tI st fun b s => tI s fun a s => P 35 L (.int (a + b) :: s) h) := rfl
theorem e2_35 : exq sa F N S rt cd2 P Q 35 L st h = (tI st fun b s => tI s fun a s => s.length ≤ 4 ∧ P 38 L (.int (if b < a then b else a) :: s) h) := rfl
theorem e2_38 : exq sa F N S rt cd2 P Q 38 L st h = (pfd st h 0 2 0 fun s h' => P 41 L s h') := rfl
theorem e2_41 : exq sa F N S rt cd2 P Q 41 L st h = (st = [] ∧ rt = none ∧ Q none h) := rfl
theorem e3_0 : exq sa F N S rt cd3 P Q 0 L st h = (ldR L 0 fun v => P 1 L (v :: st) h) := rfl
theorem e3_1 : exq sa F N S rt cd3 P Q 1 L st h = (ldR L 0 fun v => P 2 L (v :: st) h) := rfl
theorem e3_2 : exq sa F N S rt cd3 P Q 2 L st h = (tR st fun a s => opt (hO h a 0) fun fs => opt (fs[1]?) fun v => P 5 L (v :: s) h) := rfl
theorem e3_5 : exq sa F N S rt cd3 P Q 5 L st h = (P 7 L (.int (Int32.ofInt (24)) :: st) h) := rfl
theorem e3_7 : exq sa F N S rt cd3 P Q 7 L st h = (tI st fun b s => tI s fun a s => P 8 L (.int (a + b) :: s) h) := rfl
theorem e3_8 : exq sa F N S rt cd3 P Q 8 L st h = (P 9 L (.int (Int32.ofInt (1)) :: st) h) := rfl
theorem e3_9 : exq sa F N S rt cd3 P Q 9 L st h = (tI st fun b s => tI s fun a s => P 10 L (.int (a - b) :: s) h) := rfl
theorem e3_10 : exq sa F N S rt cd3 P Q 10 L st h = (P 12 L (.int (Int32.ofInt (24)) :: st) h) := rfl
theorem e3_12 : exq sa F N S rt cd3 P Q 12 L st h = (tI st fun b s => tI s fun a s => ¬ b = 0 ∧ P 13 L (.int (a - a / b * b) :: s) h) := rfl
theorem e3_13 : exq sa F N S rt cd3 P Q 13 L st h = (pfd st h 0 1 0 fun s h' => P 16 L s h') := rfl
theorem e3_16 : exq sa F N S rt cd3 P Q 16 L st h = (ldR L 0 fun v => P 17 L (v :: st) h) := rfl
theorem e3_17 : exq sa F N S rt cd3 P Q 17 L st h = (du1 st fun v s => P 18 L (v :: v :: s) h) := rfl
theorem e3_18 : exq sa F N S rt cd3 P Q 18 L st h = (tR st fun a s => opt (hO h a 0) fun fs => opt (fs[2]?) fun v => P 21 L (v :: s) h) := rfl
theorem e3_21 : exq sa F N S rt cd3 P Q 21 L st h = (P 22 L (.int (Int32.ofInt (1)) :: st) h) := rfl
theorem e3_22 : exq sa F N S rt cd3 P Q 22 L st h = (tI st fun b s => tI s fun a s => P 23 L (.int (a - b) :: s) h) := rfl
theorem e3_23 : exq sa F N S rt cd3 P Q 23 L st h = (pfd st h 0 2 0 fun s h' => P 26 L s h') := rfl
theorem e3_26 : exq sa F N S rt cd3 P Q 26 L st h = (ldR L 1 fun v => P 27 L (v :: st) h) := rfl
theorem e3_27 : exq sa F N S rt cd3 P Q 27 L st h = (ldR L 0 fun v => P 28 L (v :: st) h) := rfl
theorem e3_28 : exq sa F N S rt cd3 P Q 28 L st h = (tR st fun a s => opt (hO h a 0) fun fs => opt (fs[0]?) fun v => P 31 L (v :: s) h) := rfl
theorem e3_31 : exq sa F N S rt cd3 P Q 31 L st h = (ldR L 0 fun v => P 32 L (v :: st) h) := rfl
theorem e3_32 : exq sa F N S rt cd3 P Q 32 L st h = (tR st fun a s => opt (hO h a 0) fun fs => opt (fs[1]?) fun v => P 35 L (v :: s) h) := rfl
theorem e3_35 : exq sa F N S rt cd3 P Q 35 L st h = (tI st fun i s => tR s fun a s => opt (hR h a) fun q => ix i q.2.1 fun k => opt (q.2.2 k) fun v => P 36 L (.ref v :: s) h) := rfl
theorem e3_36 : exq sa F N S rt cd3 P Q 36 L st h = (ivV F 15 2 2 st h fun r s h' => P 39 L (pu r s) h') := rfl
theorem e3_39 : exq sa F N S rt cd3 P Q 39 L st h = (st = [] ∧ rt = none ∧ Q none h) := rfl
theorem e4_0 : exq sa F N S rt cd4 P Q 0 L st h = (ldR L 0 fun v => P 1 L (v :: st) h) := rfl
theorem e4_1 : exq sa F N S rt cd4 P Q 1 L st h = (ex1 sa F N S rt P Q 1 L st h (.invokespecial 3) 3 0 1 0) := rfl
theorem e4_4 : exq sa F N S rt cd4 P Q 4 L st h = (ldR L 0 fun v => P 5 L (v :: st) h) := rfl
theorem e4_5 : exq sa F N S rt cd4 P Q 5 L st h = (P 7 L (.int (Int32.ofInt (16)) :: st) h) := rfl
theorem e4_7 : exq sa F N S rt cd4 P Q 7 L st h = (ex1 sa F N S rt P Q 7 L st h (.newarray .int) 0 0 0 0) := rfl
theorem e4_9 : exq sa F N S rt cd4 P Q 9 L st h = (pfd st h 1 0 2 fun s h' => P 12 L s h') := rfl
theorem e4_12 : exq sa F N S rt cd4 P Q 12 L st h = (st = [] ∧ rt = none ∧ Q none h) := rfl
theorem e5_0 : exq sa F N S rt cd5 P Q 0 L st h = (ldI L 0 fun v => P 1 L (.int v :: st) h) := rfl
theorem e5_1 : exq sa F N S rt cd5 P Q 1 L st h = (ldI L 1 fun v => P 2 L (.int v :: st) h) := rfl
theorem e5_2 : exq sa F N S rt cd5 P Q 2 L st h = (tI st fun b s => tI s fun a s => br (a = b) (P 17 L s h) (P 5 L s h)) := rfl
theorem e5_5 : exq sa F N S rt cd5 P Q 5 L st h = (ldI L 1 fun v => P 6 L (.int v :: st) h) := rfl
theorem e5_6 : exq sa F N S rt cd5 P Q 6 L st h = (tI st fun a s => br (a = 0) (P 17 L s h) (P 9 L s h)) := rfl
theorem e5_9 : exq sa F N S rt cd5 P Q 9 L st h = (ldI L 0 fun v => P 10 L (.int v :: st) h) := rfl
theorem e5_10 : exq sa F N S rt cd5 P Q 10 L st h = (ivS F 6 1 st h fun r s h' => P 13 L (pu r s) h') := rfl
theorem e5_13 : exq sa F N S rt cd5 P Q 13 L st h = (ldI L 1 fun v => P 14 L (.int v :: st) h) := rfl
theorem e5_14 : exq sa F N S rt cd5 P Q 14 L st h = (tI st fun b s => tI s fun a s => br (a = b) (P 17 L s h) (P 21 L s h)) := rfl
theorem e5_17 : exq sa F N S rt cd5 P Q 17 L st h = (P 18 L (.int (Int32.ofInt (1)) :: st) h) := rfl
theorem e5_18 : exq sa F N S rt cd5 P Q 18 L st h = (P 22 L st h) := rfl
theorem e5_21 : exq sa F N S rt cd5 P Q 21 L st h = (P 22 L (.int (Int32.ofInt (0)) :: st) h) := rfl
theorem e5_22 : exq sa F N S rt cd5 P Q 22 L st h = (tI st fun v s => s = [] ∧ (rt = some .int ∨ (rt = some .boolean ∧ (v = 0 ∨ v = 1))) ∧ Q (some (.int v)) h) := rfl
theorem e6_0 : exq sa F N S rt cd6 P Q 0 L st h = (ldI L 0 fun v => P 1 L (.int v :: st) h) := rfl
theorem e6_1 : exq sa F N S rt cd6 P Q 1 L st h = (ex1 sa F N S rt P Q 1 L st h (.tableswitch 35 2 5 #[31, 31, 35, 33]) 0 0 0 0) := rfl
theorem e6_32 : exq sa F N S rt cd6 P Q 32 L st h = (P 33 L (.int (Int32.ofInt (1)) :: st) h) := rfl
theorem e6_33 : exq sa F N S rt cd6 P Q 33 L st h = (tI st fun v s => s = [] ∧ (rt = some .int ∨ (rt = some .boolean ∧ (v = 0 ∨ v = 1))) ∧ Q (some (.int v)) h) := rfl
theorem e6_34 : exq sa F N S rt cd6 P Q 34 L st h = (P 35 L (.int (Int32.ofInt (4)) :: st) h) := rfl
theorem e6_35 : exq sa F N S rt cd6 P Q 35 L st h = (tI st fun v s => s = [] ∧ (rt = some .int ∨ (rt = some .boolean ∧ (v = 0 ∨ v = 1))) ∧ Q (some (.int v)) h) := rfl
theorem e6_36 : exq sa F N S rt cd6 P Q 36 L st h = (P 37 L (.int (Int32.ofInt (0)) :: st) h) := rfl
theorem e6_37 : exq sa F N S rt cd6 P Q 37 L st h = (tI st fun v s => s = [] ∧ (rt = some .int ∨ (rt = some .boolean ∧ (v = 0 ∨ v = 1))) ∧ Q (some (.int v)) h) := rfl
theorem e7_0 : exq sa F N S rt cd7 P Q 0 L st h = (ldR L 0 fun v => P 1 L (v :: st) h) := rfl
theorem e7_1 : exq sa F N S rt cd7 P Q 1 L st h = (ldI L 1 fun v => P 2 L (.int v :: st) h) := rfl
theorem e7_2 : exq sa F N S rt cd7 P Q 2 L st h = (pfd st h 1 2 0 fun s h' => P 5 L s h') := rfl
theorem e7_5 : exq sa F N S rt cd7 P Q 5 L st h = (ldR L 0 fun v => P 6 L (v :: st) h) := rfl
theorem e7_6 : exq sa F N S rt cd7 P Q 6 L st h = (ldI L 2 fun v => P 7 L (.int v :: st) h) := rfl
theorem e7_7 : exq sa F N S rt cd7 P Q 7 L st h = (P 8 L (.int (Int32.ofInt (0)) :: st) h) := rfl
theorem e7_8 : exq sa F N S rt cd7 P Q 8 L st h = (P 9 L (.int (Int32.ofInt (5)) :: st) h) := rfl
theorem e7_9 : exq sa F N S rt cd7 P Q 9 L st h = (ivS F 131 3 st h fun r s h' => P 12 L (pu r s) h') := rfl
theorem e7_12 : exq sa F N S rt cd7 P Q 12 L st h = (tI st fun a s => br (a = 0) (P 19 L s h) (P 15 L s h)) := rfl
theorem e7_15 : exq sa F N S rt cd7 P Q 15 L st h = (ldI L 2 fun v => P 16 L (.int v :: st) h) := rfl
theorem e7_16 : exq sa F N S rt cd7 P Q 16 L st h = (P 20 L st h) := rfl
theorem e7_19 : exq sa F N S rt cd7 P Q 19 L st h = (P 20 L (.int (Int32.ofInt (0)) :: st) h) := rfl
theorem e7_20 : exq sa F N S rt cd7 P Q 20 L st h = (pfd st h 1 3 0 fun s h' => P 23 L s h') := rfl
theorem e7_23 : exq sa F N S rt cd7 P Q 23 L st h = (ldR L 0 fun v => P 24 L (v :: st) h) := rfl
theorem e7_24 : exq sa F N S rt cd7 P Q 24 L st h = (ldI L 3 fun v => P 25 L (.int v :: st) h) := rfl
theorem e7_25 : exq sa F N S rt cd7 P Q 25 L st h = (pfd st h 1 4 0 fun s h' => P 28 L s h') := rfl
theorem e7_28 : exq sa F N S rt cd7 P Q 28 L st h = (ldR L 0 fun v => P 29 L (v :: st) h) := rfl
theorem e7_29 : exq sa F N S rt cd7 P Q 29 L st h = (ldI L 4 fun v => P 31 L (.int v :: st) h) := rfl
theorem e7_31 : exq sa F N S rt cd7 P Q 31 L st h = (pfd st h 1 5 0 fun s h' => P 34 L s h') := rfl
theorem e7_34 : exq sa F N S rt cd7 P Q 34 L st h = (ldR L 0 fun v => P 35 L (v :: st) h) := rfl
theorem e7_35 : exq sa F N S rt cd7 P Q 35 L st h = (P 36 L (.int (Int32.ofInt (0)) :: st) h) := rfl
theorem e7_36 : exq sa F N S rt cd7 P Q 36 L st h = (pfd st h 1 1 0 fun s h' => P 39 L s h') := rfl
theorem e7_39 : exq sa F N S rt cd7 P Q 39 L st h = (st = [] ∧ rt = none ∧ Q none h) := rfl
theorem e8_0 : exq sa F N S rt cd8 P Q 0 L st h = (ldR L 0 fun v => P 1 L (v :: st) h) := rfl
theorem e8_1 : exq sa F N S rt cd8 P Q 1 L st h = (ldI L 1 fun v => P 2 L (.int v :: st) h) := rfl
theorem e8_2 : exq sa F N S rt cd8 P Q 2 L st h = (tI st fun a s => br (a = 0) (P 5 L s h) (P 16 L s h)) := rfl
theorem e8_5 : exq sa F N S rt cd8 P Q 5 L st h = (P 8 L (.float (UInt32.ofNat 0) :: st) h) := rfl
theorem e8_8 : exq sa F N S rt cd8 P Q 8 L st h = (ldR L 0 fun v => P 9 L (v :: st) h) := rfl
theorem e8_9 : exq sa F N S rt cd8 P Q 9 L st h = (tR st fun a s => opt (hO h a 1) fun fs => opt (fs[3]?) fun v => P 12 L (v :: s) h) := rfl
theorem e8_12 : exq sa F N S rt cd8 P Q 12 L st h = (ald sa st h fun v s => P 13 L (.int v :: s) h) := rfl
theorem e8_13 : exq sa F N S rt cd8 P Q 13 L st h = (P 24 L st h) := rfl
theorem e8_16 : exq sa F N S rt cd8 P Q 16 L st h = (P 19 L (.float (UInt32.ofNat 1) :: st) h) := rfl
theorem e8_19 : exq sa F N S rt cd8 P Q 19 L st h = (ldR L 0 fun v => P 20 L (v :: st) h) := rfl
theorem e8_20 : exq sa F N S rt cd8 P Q 20 L st h = (tR st fun a s => opt (hO h a 1) fun fs => opt (fs[3]?) fun v => P 23 L (v :: s) h) := rfl
theorem e8_23 : exq sa F N S rt cd8 P Q 23 L st h = (ald sa st h fun v s => P 24 L (.int v :: s) h) := rfl
theorem e8_24 : exq sa F N S rt cd8 P Q 24 L st h = (P 25 L (.int (Int32.ofInt (0)) :: st) h) := rfl
theorem e8_25 : exq sa F N S rt cd8 P Q 25 L st h = (ivV F 9 3 1 st h fun r s h' => P 28 L (pu r s) h') := rfl
theorem e8_28 : exq sa F N S rt cd8 P Q 28 L st h = (tI st fun v s => s = [] ∧ (rt = some .int ∨ (rt = some .boolean ∧ (v = 0 ∨ v = 1))) ∧ Q (some (.int v)) h) := rfl
theorem e9_0 : exq sa F N S rt cd9 P Q 0 L st h = (ldI L 2 fun v => P 1 L (.int v :: st) h) := rfl
theorem e9_1 : exq sa F N S rt cd9 P Q 1 L st h = (P 3 L (.int (Int32.ofInt (16)) :: st) h) := rfl
theorem e9_3 : exq sa F N S rt cd9 P Q 3 L st h = (tI st fun b s => tI s fun a s => br (a ≤ b) (P 8 L s h) (P 6 L s h)) := rfl
theorem e9_6 : exq sa F N S rt cd9 P Q 6 L st h = (P 7 L (.int (Int32.ofInt (0)) :: st) h) := rfl
theorem e9_7 : exq sa F N S rt cd9 P Q 7 L st h = (tI st fun v s => s = [] ∧ (rt = some .int ∨ (rt = some .boolean ∧ (v = 0 ∨ v = 1))) ∧ Q (some (.int v)) h) := rfl
theorem e9_8 : exq sa F N S rt cd9 P Q 8 L st h = (ldR L 0 fun v => P 9 L (v :: st) h) := rfl
theorem e9_9 : exq sa F N S rt cd9 P Q 9 L st h = (ldI L 1 fun v => P 10 L (.int v :: st) h) := rfl
theorem e9_10 : exq sa F N S rt cd9 P Q 10 L st h = (ivV F 10 2 1 st h fun r s h' => P 13 L (pu r s) h') := rfl
theorem e9_13 : exq sa F N S rt cd9 P Q 13 L st h = (ldI L 2 fun v => P 14 L (.int v :: st) h) := rfl
theorem e9_14 : exq sa F N S rt cd9 P Q 14 L st h = (P 15 L (.int (Int32.ofInt (1)) :: st) h) := rfl
theorem e9_15 : exq sa F N S rt cd9 P Q 15 L st h = (tI st fun b s => tI s fun a s => P 16 L (.int (a + b) :: s) h) := rfl
theorem e9_16 : exq sa F N S rt cd9 P Q 16 L st h = (tI st fun v s => lvS L 3 (.int v) fun L' => P 17 L' s h) := rfl
theorem e9_17 : exq sa F N S rt cd9 P Q 17 L st h = (ldI L 1 fun v => P 18 L (.int v :: st) h) := rfl
theorem e9_18 : exq sa F N S rt cd9 P Q 18 L st h = (ex1 sa F N S rt P Q 18 L st h (.tableswitch 193 10 24 #[74, 79, 101, 110, 121, 193, 193, 193, 193, 193, 131, 136, 149, 161, 183]) 0 0 0 0) := rfl
theorem e9_92 : exq sa F N S rt cd9 P Q 92 L st h = (ldR L 0 fun v => P 93 L (v :: st) h) := rfl
theorem e9_93 : exq sa F N S rt cd9 P Q 93 L st h = (tR st fun a s => opt (hO h a 1) fun fs => opt (fs[4]?) fun v => P 96 L (v :: s) h) := rfl
theorem e9_96 : exq sa F N S rt cd9 P Q 96 L st h = (tI st fun v s => s = [] ∧ (rt = some .int ∨ (rt = some .boolean ∧ (v = 0 ∨ v = 1))) ∧ Q (some (.int v)) h) := rfl
theorem e9_97 : exq sa F N S rt cd9 P Q 97 L st h = (ldR L 0 fun v => P 98 L (v :: st) h) := rfl
theorem e9_98 : exq sa F N S rt cd9 P Q 98 L st h = (P 100 L (.int (Int32.ofInt (10)) :: st) h) := rfl
theorem e9_100 : exq sa F N S rt cd9 P Q 100 L st h = (ldI L 3 fun v => P 101 L (.int v :: st) h) := rfl
theorem e9_101 : exq sa F N S rt cd9 P Q 101 L st h = (ivV F 9 3 1 st h fun r s h' => P 104 L (pu r s) h') := rfl
theorem e9_104 : exq sa F N S rt cd9 P Q 104 L st h = (ldR L 0 fun v => P 105 L (v :: st) h) := rfl
theorem e9_105 : exq sa F N S rt cd9 P Q 105 L st h = (P 108 L (.float (UInt32.ofNat 1) :: st) h) := rfl
theorem e9_108 : exq sa F N S rt cd9 P Q 108 L st h = (ldR L 0 fun v => P 109 L (v :: st) h) := rfl
theorem e9_109 : exq sa F N S rt cd9 P Q 109 L st h = (tR st fun a s => opt (hO h a 1) fun fs => opt (fs[3]?) fun v => P 112 L (v :: s) h) := rfl
theorem e9_112 : exq sa F N S rt cd9 P Q 112 L st h = (ald sa st h fun v s => P 113 L (.int v :: s) h) := rfl
theorem e9_113 : exq sa F N S rt cd9 P Q 113 L st h = (ldI L 3 fun v => P 114 L (.int v :: st) h) := rfl
theorem e9_114 : exq sa F N S rt cd9 P Q 114 L st h = (ivV F 9 3 1 st h fun r s h' => P 117 L (pu r s) h') := rfl
theorem e9_117 : exq sa F N S rt cd9 P Q 117 L st h = (tI st fun b s => tI s fun a s => P 118 L (.int (a + b) :: s) h) := rfl
theorem e9_118 : exq sa F N S rt cd9 P Q 118 L st h = (tI st fun v s => s = [] ∧ (rt = some .int ∨ (rt = some .boolean ∧ (v = 0 ∨ v = 1))) ∧ Q (some (.int v)) h) := rfl
theorem e9_119 : exq sa F N S rt cd9 P Q 119 L st h = (ldR L 0 fun v => P 120 L (v :: st) h) := rfl
theorem e9_120 : exq sa F N S rt cd9 P Q 120 L st h = (P 122 L (.int (Int32.ofInt (11)) :: st) h) := rfl
theorem e9_122 : exq sa F N S rt cd9 P Q 122 L st h = (ldI L 3 fun v => P 123 L (.int v :: st) h) := rfl
theorem e9_123 : exq sa F N S rt cd9 P Q 123 L st h = (ivV F 9 3 1 st h fun r s h' => P 126 L (pu r s) h') := rfl
theorem e9_126 : exq sa F N S rt cd9 P Q 126 L st h = (tI st fun a s => P 127 L (.int (-a) :: s) h) := rfl
theorem e9_127 : exq sa F N S rt cd9 P Q 127 L st h = (tI st fun v s => s = [] ∧ (rt = some .int ∨ (rt = some .boolean ∧ (v = 0 ∨ v = 1))) ∧ Q (some (.int v)) h) := rfl
theorem e9_128 : exq sa F N S rt cd9 P Q 128 L st h = (ldR L 0 fun v => P 129 L (v :: st) h) := rfl
theorem e9_129 : exq sa F N S rt cd9 P Q 129 L st h = (P 131 L (.int (Int32.ofInt (10)) :: st) h) := rfl
theorem e9_131 : exq sa F N S rt cd9 P Q 131 L st h = (ldI L 3 fun v => P 132 L (.int v :: st) h) := rfl
theorem e9_132 : exq sa F N S rt cd9 P Q 132 L st h = (ivV F 9 3 1 st h fun r s h' => P 135 L (pu r s) h') := rfl
theorem e9_135 : exq sa F N S rt cd9 P Q 135 L st h = (P 137 L (.int (Int32.ofInt (100)) :: st) h) := rfl
theorem e9_137 : exq sa F N S rt cd9 P Q 137 L st h = (tI st fun b s => tI s fun a s => P 138 L (.int (a - b) :: s) h) := rfl
theorem e9_138 : exq sa F N S rt cd9 P Q 138 L st h = (tI st fun v s => s = [] ∧ (rt = some .int ∨ (rt = some .boolean ∧ (v = 0 ∨ v = 1))) ∧ Q (some (.int v)) h) := rfl
theorem e9_139 : exq sa F N S rt cd9 P Q 139 L st h = (ldR L 0 fun v => P 140 L (v :: st) h) := rfl
theorem e9_140 : exq sa F N S rt cd9 P Q 140 L st h = (P 142 L (.int (Int32.ofInt (13)) :: st) h) := rfl
theorem e9_142 : exq sa F N S rt cd9 P Q 142 L st h = (ldI L 3 fun v => P 143 L (.int v :: st) h) := rfl
theorem e9_143 : exq sa F N S rt cd9 P Q 143 L st h = (ivV F 9 3 1 st h fun r s h' => P 146 L (pu r s) h') := rfl
theorem e9_146 : exq sa F N S rt cd9 P Q 146 L st h = (P 147 L (.int (Int32.ofInt (2)) :: st) h) := rfl
theorem e9_147 : exq sa F N S rt cd9 P Q 147 L st h = (tI st fun b s => tI s fun a s => P 148 L (.int (a * b) :: s) h) := rfl
theorem e9_148 : exq sa F N S rt cd9 P Q 148 L st h = (tI st fun v s => s = [] ∧ (rt = some .int ∨ (rt = some .boolean ∧ (v = 0 ∨ v = 1))) ∧ Q (some (.int v)) h) := rfl
theorem e9_149 : exq sa F N S rt cd9 P Q 149 L st h = (ldR L 0 fun v => P 150 L (v :: st) h) := rfl
theorem e9_150 : exq sa F N S rt cd9 P Q 150 L st h = (tR st fun a s => opt (hO h a 1) fun fs => opt (fs[2]?) fun v => P 153 L (v :: s) h) := rfl
theorem e9_153 : exq sa F N S rt cd9 P Q 153 L st h = (tI st fun v s => s = [] ∧ (rt = some .int ∨ (rt = some .boolean ∧ (v = 0 ∨ v = 1))) ∧ Q (some (.int v)) h) := rfl
theorem e9_154 : exq sa F N S rt cd9 P Q 154 L st h = (ldR L 0 fun v => P 155 L (v :: st) h) := rfl
theorem e9_155 : exq sa F N S rt cd9 P Q 155 L st h = (P 157 L (.int (Int32.ofInt (20)) :: st) h) := rfl
theorem e9_157 : exq sa F N S rt cd9 P Q 157 L st h = (ldI L 3 fun v => P 158 L (.int v :: st) h) := rfl
theorem e9_158 : exq sa F N S rt cd9 P Q 158 L st h = (ivV F 9 3 1 st h fun r s h' => P 161 L (pu r s) h') := rfl
theorem e9_161 : exq sa F N S rt cd9 P Q 161 L st h = (ldR L 0 fun v => P 162 L (v :: st) h) := rfl
theorem e9_162 : exq sa F N S rt cd9 P Q 162 L st h = (tR st fun a s => opt (hO h a 1) fun fs => opt (fs[5]?) fun v => P 165 L (v :: s) h) := rfl
theorem e9_165 : exq sa F N S rt cd9 P Q 165 L st h = (tI st fun b s => tI s fun a s => P 166 L (.int (a + b) :: s) h) := rfl
theorem e9_166 : exq sa F N S rt cd9 P Q 166 L st h = (tI st fun v s => s = [] ∧ (rt = some .int ∨ (rt = some .boolean ∧ (v = 0 ∨ v = 1))) ∧ Q (some (.int v)) h) := rfl
theorem e9_167 : exq sa F N S rt cd9 P Q 167 L st h = (ldR L 0 fun v => P 168 L (v :: st) h) := rfl
theorem e9_168 : exq sa F N S rt cd9 P Q 168 L st h = (P 170 L (.int (Int32.ofInt (21)) :: st) h) := rfl
theorem e9_170 : exq sa F N S rt cd9 P Q 170 L st h = (ldI L 3 fun v => P 171 L (.int v :: st) h) := rfl
theorem e9_171 : exq sa F N S rt cd9 P Q 171 L st h = (ivV F 9 3 1 st h fun r s h' => P 174 L (pu r s) h') := rfl
theorem e9_174 : exq sa F N S rt cd9 P Q 174 L st h = (P 177 L (.int (Int32.ofInt (1000)) :: st) h) := rfl
theorem e9_177 : exq sa F N S rt cd9 P Q 177 L st h = (tI st fun b s => tI s fun a s => P 178 L (.int (a - b) :: s) h) := rfl
theorem e9_178 : exq sa F N S rt cd9 P Q 178 L st h = (tI st fun v s => s = [] ∧ (rt = some .int ∨ (rt = some .boolean ∧ (v = 0 ∨ v = 1))) ∧ Q (some (.int v)) h) := rfl
theorem e9_179 : exq sa F N S rt cd9 P Q 179 L st h = (ldR L 0 fun v => P 180 L (v :: st) h) := rfl
theorem e9_180 : exq sa F N S rt cd9 P Q 180 L st h = (P 182 L (.int (Int32.ofInt (20)) :: st) h) := rfl
theorem e9_182 : exq sa F N S rt cd9 P Q 182 L st h = (ldI L 3 fun v => P 183 L (.int v :: st) h) := rfl
theorem e9_183 : exq sa F N S rt cd9 P Q 183 L st h = (ivV F 9 3 1 st h fun r s h' => P 186 L (pu r s) h') := rfl
theorem e9_186 : exq sa F N S rt cd9 P Q 186 L st h = (ldR L 0 fun v => P 187 L (v :: st) h) := rfl
theorem e9_187 : exq sa F N S rt cd9 P Q 187 L st h = (P 190 L (.float (UInt32.ofNat 0) :: st) h) := rfl
theorem e9_190 : exq sa F N S rt cd9 P Q 190 L st h = (ldR L 0 fun v => P 191 L (v :: st) h) := rfl
theorem e9_191 : exq sa F N S rt cd9 P Q 191 L st h = (tR st fun a s => opt (hO h a 1) fun fs => opt (fs[3]?) fun v => P 194 L (v :: s) h) := rfl
theorem e9_194 : exq sa F N S rt cd9 P Q 194 L st h = (ald sa st h fun v s => P 195 L (.int v :: s) h) := rfl
theorem e9_195 : exq sa F N S rt cd9 P Q 195 L st h = (ldI L 3 fun v => P 196 L (.int v :: st) h) := rfl
theorem e9_196 : exq sa F N S rt cd9 P Q 196 L st h = (ivV F 9 3 1 st h fun r s h' => P 199 L (pu r s) h') := rfl
theorem e9_199 : exq sa F N S rt cd9 P Q 199 L st h = (tI st fun b s => tI s fun a s => P 200 L (.int (a - b) :: s) h) := rfl
theorem e9_200 : exq sa F N S rt cd9 P Q 200 L st h = (tI st fun v s => s = [] ∧ (rt = some .int ∨ (rt = some .boolean ∧ (v = 0 ∨ v = 1))) ∧ Q (some (.int v)) h) := rfl
theorem e9_201 : exq sa F N S rt cd9 P Q 201 L st h = (ldR L 0 fun v => P 202 L (v :: st) h) := rfl
theorem e9_202 : exq sa F N S rt cd9 P Q 202 L st h = (P 204 L (.int (Int32.ofInt (21)) :: st) h) := rfl
theorem e9_204 : exq sa F N S rt cd9 P Q 204 L st h = (ldI L 3 fun v => P 205 L (.int v :: st) h) := rfl
theorem e9_205 : exq sa F N S rt cd9 P Q 205 L st h = (ivV F 9 3 1 st h fun r s h' => P 208 L (pu r s) h') := rfl
theorem e9_208 : exq sa F N S rt cd9 P Q 208 L st h = (P 209 L (.int (Int32.ofInt (2)) :: st) h) := rfl
theorem e9_209 : exq sa F N S rt cd9 P Q 209 L st h = (tI st fun b s => tI s fun a s => P 210 L (.int (a * b) :: s) h) := rfl
theorem e9_210 : exq sa F N S rt cd9 P Q 210 L st h = (tI st fun v s => s = [] ∧ (rt = some .int ∨ (rt = some .boolean ∧ (v = 0 ∨ v = 1))) ∧ Q (some (.int v)) h) := rfl
theorem e9_211 : exq sa F N S rt cd9 P Q 211 L st h = (P 212 L (.int (Int32.ofInt (0)) :: st) h) := rfl
theorem e9_212 : exq sa F N S rt cd9 P Q 212 L st h = (tI st fun v s => s = [] ∧ (rt = some .int ∨ (rt = some .boolean ∧ (v = 0 ∨ v = 1))) ∧ Q (some (.int v)) h) := rfl
theorem e10_0 : exq sa F N S rt cd10 P Q 0 L st h = (ldR L 0 fun v => P 1 L (v :: st) h) := rfl
theorem e10_1 : exq sa F N S rt cd10 P Q 1 L st h = (tR st fun a s => opt (hO h a 1) fun fs => opt (fs[1]?) fun v => P 4 L (v :: s) h) := rfl
theorem e10_4 : exq sa F N S rt cd10 P Q 4 L st h = (P 6 L (.int (Int32.ofInt (16)) :: st) h) := rfl
theorem e10_6 : exq sa F N S rt cd10 P Q 6 L st h = (tI st fun b s => tI s fun a s => br (b ≤ a) (P 29 L s h) (P 9 L s h)) := rfl
theorem e10_9 : exq sa F N S rt cd10 P Q 9 L st h = (ldR L 0 fun v => P 10 L (v :: st) h) := rfl
theorem e10_10 : exq sa F N S rt cd10 P Q 10 L st h = (tR st fun a s => opt (hO h a 1) fun fs => opt (fs[0]?) fun v => P 13 L (v :: s) h) := rfl
theorem e10_13 : exq sa F N S rt cd10 P Q 13 L st h = (ldR L 0 fun v => P 14 L (v :: st) h) := rfl
theorem e10_14 : exq sa F N S rt cd10 P Q 14 L st h = (tR st fun a s => opt (hO h a 1) fun fs => opt (fs[1]?) fun v => P 17 L (v :: s) h) := rfl
theorem e10_17 : exq sa F N S rt cd10 P Q 17 L st h = (ldI L 1 fun v => P 18 L (.int v :: st) h) := rfl
theorem e10_18 : exq sa F N S rt cd10 P Q 18 L st h = (tI st fun v s => tI s fun i s => tR s fun a s => opt (hI h a) fun q => ix i q.1 fun k => P 19 L s (hS h a (.inl (0, q.1, .inl (upd q.2 k v))))) := rfl
theorem e10_19 : exq sa F N S rt cd10 P Q 19 L st h = (ldR L 0 fun v => P 20 L (v :: st) h) := rfl
theorem e10_20 : exq sa F N S rt cd10 P Q 20 L st h = (du1 st fun v s => P 21 L (v :: v :: s) h) := rfl
theorem e10_21 : exq sa F N S rt cd10 P Q 21 L st h = (tR st fun a s => opt (hO h a 1) fun fs => opt (fs[1]?) fun v => P 24 L (v :: s) h) := rfl
theorem e10_24 : exq sa F N S rt cd10 P Q 24 L st h = (P 25 L (.int (Int32.ofInt (1)) :: st) h) := rfl
theorem e10_25 : exq sa F N S rt cd10 P Q 25 L st h = (tI st fun b s => tI s fun a s => P 26 L (.int (a + b) :: s) h) := rfl
theorem e10_26 : exq sa F N S rt cd10 P Q 26 L st h = (pfd st h 1 1 0 fun s h' => P 29 L s h') := rfl
theorem e10_29 : exq sa F N S rt cd10 P Q 29 L st h = (st = [] ∧ rt = none ∧ Q none h) := rfl
theorem e11_0 : exq sa F N S rt cd11 P Q 0 L st h = (ldR L 0 fun v => P 1 L (v :: st) h) := rfl
theorem e11_1 : exq sa F N S rt cd11 P Q 1 L st h = (ex1 sa F N S rt P Q 1 L st h (.invokespecial 3) 3 0 1 0) := rfl
theorem e11_4 : exq sa F N S rt cd11 P Q 4 L st h = (ldR L 0 fun v => P 5 L (v :: st) h) := rfl
theorem e11_5 : exq sa F N S rt cd11 P Q 5 L st h = (P 6 L (.int (Int32.ofInt (5)) :: st) h) := rfl
theorem e11_6 : exq sa F N S rt cd11 P Q 6 L st h = (ex1 sa F N S rt P Q 6 L st h (.newarray .int) 0 0 0 0) := rfl
theorem e11_8 : exq sa F N S rt cd11 P Q 8 L st h = (pfd st h 2 4 2 fun s h' => P 11 L s h') := rfl
theorem e11_11 : exq sa F N S rt cd11 P Q 11 L st h = (ldR L 0 fun v => P 12 L (v :: st) h) := rfl
theorem e11_12 : exq sa F N S rt cd11 P Q 12 L st h = (P 13 L (.int (Int32.ofInt (5)) :: st) h) := rfl
theorem e11_13 : exq sa F N S rt cd11 P Q 13 L st h = (ex1 sa F N S rt P Q 13 L st h (.newarray .int) 0 0 0 0) := rfl
theorem e11_15 : exq sa F N S rt cd11 P Q 15 L st h = (pfd st h 2 5 2 fun s h' => P 18 L s h') := rfl
theorem e11_18 : exq sa F N S rt cd11 P Q 18 L st h = (ldR L 0 fun v => P 19 L (v :: st) h) := rfl
theorem e11_19 : exq sa F N S rt cd11 P Q 19 L st h = (P 20 L (.int (Int32.ofInt (5)) :: st) h) := rfl
theorem e11_20 : exq sa F N S rt cd11 P Q 20 L st h = (ex1 sa F N S rt P Q 20 L st h (.newarray .int) 0 0 0 0) := rfl
theorem e11_22 : exq sa F N S rt cd11 P Q 22 L st h = (pfd st h 2 6 2 fun s h' => P 25 L s h') := rfl
theorem e11_25 : exq sa F N S rt cd11 P Q 25 L st h = (ldR L 0 fun v => P 26 L (v :: st) h) := rfl
theorem e11_26 : exq sa F N S rt cd11 P Q 26 L st h = (P 27 L (.int (Int32.ofInt (5)) :: st) h) := rfl
theorem e11_27 : exq sa F N S rt cd11 P Q 27 L st h = (ex1 sa F N S rt P Q 27 L st h (.newarray .int) 0 0 0 0) := rfl
theorem e11_29 : exq sa F N S rt cd11 P Q 29 L st h = (pfd st h 2 7 2 fun s h' => P 32 L s h') := rfl
theorem e11_32 : exq sa F N S rt cd11 P Q 32 L st h = (ldR L 0 fun v => P 33 L (v :: st) h) := rfl
theorem e11_33 : exq sa F N S rt cd11 P Q 33 L st h = (P 34 L (.int (Int32.ofInt (5)) :: st) h) := rfl
theorem e11_34 : exq sa F N S rt cd11 P Q 34 L st h = (ex1 sa F N S rt P Q 34 L st h (.newarray .int) 0 0 0 0) := rfl
theorem e11_36 : exq sa F N S rt cd11 P Q 36 L st h = (pfd st h 2 8 2 fun s h' => P 39 L s h') := rfl
theorem e11_39 : exq sa F N S rt cd11 P Q 39 L st h = (ldR L 0 fun v => P 40 L (v :: st) h) := rfl
theorem e11_40 : exq sa F N S rt cd11 P Q 40 L st h = (P 42 L (.int (Int32.ofInt (6)) :: st) h) := rfl
theorem e11_42 : exq sa F N S rt cd11 P Q 42 L st h = (ex1 sa F N S rt P Q 42 L st h (.newarray .int) 0 0 0 0) := rfl
theorem e11_44 : exq sa F N S rt cd11 P Q 44 L st h = (pfd st h 2 10 2 fun s h' => P 47 L s h') := rfl
theorem e11_47 : exq sa F N S rt cd11 P Q 47 L st h = (ldR L 0 fun v => P 48 L (v :: st) h) := rfl
theorem e11_48 : exq sa F N S rt cd11 P Q 48 L st h = (P 50 L (.int (Int32.ofInt (6)) :: st) h) := rfl
theorem e11_50 : exq sa F N S rt cd11 P Q 50 L st h = (ex1 sa F N S rt P Q 50 L st h (.newarray .int) 0 0 0 0) := rfl
theorem e11_52 : exq sa F N S rt cd11 P Q 52 L st h = (pfd st h 2 11 2 fun s h' => P 55 L s h') := rfl
theorem e11_55 : exq sa F N S rt cd11 P Q 55 L st h = (ldR L 0 fun v => P 56 L (v :: st) h) := rfl
theorem e11_56 : exq sa F N S rt cd11 P Q 56 L st h = (P 58 L (.int (Int32.ofInt (6)) :: st) h) := rfl
theorem e11_58 : exq sa F N S rt cd11 P Q 58 L st h = (ex1 sa F N S rt P Q 58 L st h (.newarray .int) 0 0 0 0) := rfl
theorem e11_60 : exq sa F N S rt cd11 P Q 60 L st h = (pfd st h 2 12 2 fun s h' => P 63 L s h') := rfl
theorem e11_63 : exq sa F N S rt cd11 P Q 63 L st h = (st = [] ∧ rt = none ∧ Q none h) := rfl
theorem e12_0 : exq sa F N S rt cd12 P Q 0 L st h = (ldR L 0 fun v => P 1 L (v :: st) h) := rfl
theorem e12_1 : exq sa F N S rt cd12 P Q 1 L st h = (P 2 L (.int (Int32.ofInt (0)) :: st) h) := rfl
theorem e12_2 : exq sa F N S rt cd12 P Q 2 L st h = (pfd st h 2 3 0 fun s h' => P 5 L s h') := rfl
theorem e12_5 : exq sa F N S rt cd12 P Q 5 L st h = (ldR L 0 fun v => P 6 L (v :: st) h) := rfl
theorem e12_6 : exq sa F N S rt cd12 P Q 6 L st h = (P 7 L (.int (Int32.ofInt (0)) :: st) h) := rfl
theorem e12_7 : exq sa F N S rt cd12 P Q 7 L st h = (pfd st h 2 9 0 fun s h' => P 10 L s h') := rfl
theorem e12_10 : exq sa F N S rt cd12 P Q 10 L st h = (st = [] ∧ rt = none ∧ Q none h) := rfl
theorem e13_0 : exq sa F N S rt cd13 P Q 0 L st h = (ldR L 0 fun v => P 1 L (v :: st) h) := rfl
theorem e13_1 : exq sa F N S rt cd13 P Q 1 L st h = (tR st fun a s => opt (hO h a 2) fun fs => opt (fs[10]?) fun v => P 4 L (v :: s) h) := rfl
theorem e13_4 : exq sa F N S rt cd13 P Q 4 L st h = (ldR L 0 fun v => P 5 L (v :: st) h) := rfl
theorem e13_5 : exq sa F N S rt cd13 P Q 5 L st h = (tR st fun a s => opt (hO h a 2) fun fs => opt (fs[9]?) fun v => P 8 L (v :: s) h) := rfl
theorem e13_8 : exq sa F N S rt cd13 P Q 8 L st h = (ldI L 1 fun v => P 9 L (.int v :: st) h) := rfl
theorem e13_9 : exq sa F N S rt cd13 P Q 9 L st h = (tI st fun v s => tI s fun i s => tR s fun a s => opt (hI h a) fun q => ix i q.1 fun k => P 10 L s (hS h a (.inl (0, q.1, .inl (upd q.2 k v))))) := rfl
theorem e13_10 : exq sa F N S rt cd13 P Q 10 L st h = (ldR L 0 fun v => P 11 L (v :: st) h) := rfl
theorem e13_11 : exq sa F N S rt cd13 P Q 11 L st h = (tR st fun a s => opt (hO h a 2) fun fs => opt (fs[11]?) fun v => P 14 L (v :: s) h) := rfl
theorem e13_14 : exq sa F N S rt cd13 P Q 14 L st h = (ldR L 0 fun v => P 15 L (v :: st) h) := rfl
theorem e13_15 : exq sa F N S rt cd13 P Q 15 L st h = (tR st fun a s => opt (hO h a 2) fun fs => opt (fs[9]?) fun v => P 18 L (v :: s) h) := rfl
theorem e13_18 : exq sa F N S rt cd13 P Q 18 L st h = (ldI L 2 fun v => P 19 L (.int v :: st) h) := rfl
theorem e13_19 : exq sa F N S rt cd13 P Q 19 L st h = (tI st fun v s => tI s fun i s => tR s fun a s => opt (hI h a) fun q => ix i q.1 fun k => P 20 L s (hS h a (.inl (0, q.1, .inl (upd q.2 k v))))) := rfl
theorem e13_20 : exq sa F N S rt cd13 P Q 20 L st h = (ldR L 0 fun v => P 21 L (v :: st) h) := rfl
theorem e13_21 : exq sa F N S rt cd13 P Q 21 L st h = (tR st fun a s => opt (hO h a 2) fun fs => opt (fs[12]?) fun v => P 24 L (v :: s) h) := rfl
theorem e13_24 : exq sa F N S rt cd13 P Q 24 L st h = (ldR L 0 fun v => P 25 L (v :: st) h) := rfl
theorem e13_25 : exq sa F N S rt cd13 P Q 25 L st h = (tR st fun a s => opt (hO h a 2) fun fs => opt (fs[9]?) fun v => P 28 L (v :: s) h) := rfl
theorem e13_28 : exq sa F N S rt cd13 P Q 28 L st h = (ldI L 3 fun v => P 29 L (.int v :: st) h) := rfl
theorem e13_29 : exq sa F N S rt cd13 P Q 29 L st h = (tI st fun v s => tI s fun i s => tR s fun a s => opt (hI h a) fun q => ix i q.1 fun k => P 30 L s (hS h a (.inl (0, q.1, .inl (upd q.2 k v))))) := rfl
theorem e13_30 : exq sa F N S rt cd13 P Q 30 L st h = (ldR L 0 fun v => P 31 L (v :: st) h) := rfl
theorem e13_31 : exq sa F N S rt cd13 P Q 31 L st h = (du1 st fun v s => P 32 L (v :: v :: s) h) := rfl
theorem e13_32 : exq sa F N S rt cd13 P Q 32 L st h = (tR st fun a s => opt (hO h a 2) fun fs => opt (fs[9]?) fun v => P 35 L (v :: s) h) := rfl
theorem e13_35 : exq sa F N S rt cd13 P Q 35 L st h = (P 36 L (.int (Int32.ofInt (1)) :: st) h) := rfl
theorem e13_36 : exq sa F N S rt cd13 P Q 36 L st h = (tI st fun b s => tI s fun a s => P 37 L (.int (a + b) :: s) h) := rfl
theorem e13_37 : exq sa F N S rt cd13 P Q 37 L st h = (pfd st h 2 9 0 fun s h' => P 40 L s h') := rfl
theorem e13_40 : exq sa F N S rt cd13 P Q 40 L st h = (st = [] ∧ rt = none ∧ Q none h) := rfl
theorem e14_0 : exq sa F N S rt cd14 P Q 0 L st h = (ldR L 0 fun v => P 1 L (v :: st) h) := rfl
theorem e14_1 : exq sa F N S rt cd14 P Q 1 L st h = (tR st fun a s => opt (hO h a 2) fun fs => opt (fs[4]?) fun v => P 4 L (v :: s) h) := rfl
theorem e14_4 : exq sa F N S rt cd14 P Q 4 L st h = (ldR L 0 fun v => P 5 L (v :: st) h) := rfl
theorem e14_5 : exq sa F N S rt cd14 P Q 5 L st h = (tR st fun a s => opt (hO h a 2) fun fs => opt (fs[3]?) fun v => P 8 L (v :: s) h) := rfl
theorem e14_8 : exq sa F N S rt cd14 P Q 8 L st h = (ldI L 1 fun v => P 9 L (.int v :: st) h) := rfl
theorem e14_9 : exq sa F N S rt cd14 P Q 9 L st h = (tI st fun v s => tI s fun i s => tR s fun a s => opt (hI h a) fun q => ix i q.1 fun k => P 10 L s (hS h a (.inl (0, q.1, .inl (upd q.2 k v))))) := rfl
theorem e14_10 : exq sa F N S rt cd14 P Q 10 L st h = (ldR L 0 fun v => P 11 L (v :: st) h) := rfl
theorem e14_11 : exq sa F N S rt cd14 P Q 11 L st h = (tR st fun a s => opt (hO h a 2) fun fs => opt (fs[5]?) fun v => P 14 L (v :: s) h) := rfl
theorem e14_14 : exq sa F N S rt cd14 P Q 14 L st h = (ldR L 0 fun v => P 15 L (v :: st) h) := rfl
theorem e14_15 : exq sa F N S rt cd14 P Q 15 L st h = (tR st fun a s => opt (hO h a 2) fun fs => opt (fs[3]?) fun v => P 18 L (v :: s) h) := rfl
theorem e14_18 : exq sa F N S rt cd14 P Q 18 L st h = (ldI L 2 fun v => P 19 L (.int v :: st) h) := rfl
theorem e14_19 : exq sa F N S rt cd14 P Q 19 L st h = (tI st fun v s => tI s fun i s => tR s fun a s => opt (hI h a) fun q => ix i q.1 fun k => P 20 L s (hS h a (.inl (0, q.1, .inl (upd q.2 k v))))) := rfl
theorem e14_20 : exq sa F N S rt cd14 P Q 20 L st h = (ldR L 0 fun v => P 21 L (v :: st) h) := rfl
theorem e14_21 : exq sa F N S rt cd14 P Q 21 L st h = (du1 st fun v s => P 22 L (v :: v :: s) h) := rfl
theorem e14_22 : exq sa F N S rt cd14 P Q 22 L st h = (tR st fun a s => opt (hO h a 2) fun fs => opt (fs[3]?) fun v => P 25 L (v :: s) h) := rfl
theorem e14_25 : exq sa F N S rt cd14 P Q 25 L st h = (P 26 L (.int (Int32.ofInt (1)) :: st) h) := rfl
theorem e14_26 : exq sa F N S rt cd14 P Q 26 L st h = (tI st fun b s => tI s fun a s => P 27 L (.int (a + b) :: s) h) := rfl
theorem e14_27 : exq sa F N S rt cd14 P Q 27 L st h = (pfd st h 2 3 0 fun s h' => P 30 L s h') := rfl
theorem e14_30 : exq sa F N S rt cd14 P Q 30 L st h = (st = [] ∧ rt = none ∧ Q none h) := rfl
theorem e15_0 : exq sa F N S rt cd15 P Q 0 L st h = (ldR L 0 fun v => P 1 L (v :: st) h) := rfl
theorem e15_1 : exq sa F N S rt cd15 P Q 1 L st h = (ldR L 1 fun v => P 2 L (v :: st) h) := rfl
theorem e15_2 : exq sa F N S rt cd15 P Q 2 L st h = (tR st fun a s => opt (hO h a 2) fun fs => opt (fs[0]?) fun v => P 5 L (v :: s) h) := rfl
theorem e15_5 : exq sa F N S rt cd15 P Q 5 L st h = (pfd st h 2 0 0 fun s h' => P 8 L s h') := rfl
theorem e15_8 : exq sa F N S rt cd15 P Q 8 L st h = (ldR L 0 fun v => P 9 L (v :: st) h) := rfl
theorem e15_9 : exq sa F N S rt cd15 P Q 9 L st h = (ldR L 1 fun v => P 10 L (v :: st) h) := rfl
theorem e15_10 : exq sa F N S rt cd15 P Q 10 L st h = (tR st fun a s => opt (hO h a 2) fun fs => opt (fs[1]?) fun v => P 13 L (v :: s) h) := rfl
theorem e15_13 : exq sa F N S rt cd15 P Q 13 L st h = (pfd st h 2 1 0 fun s h' => P 16 L s h') := rfl
theorem e15_16 : exq sa F N S rt cd15 P Q 16 L st h = (ldR L 0 fun v => P 17 L (v :: st) h) := rfl
theorem e15_17 : exq sa F N S rt cd15 P Q 17 L st h = (ldR L 1 fun v => P 18 L (v :: st) h) := rfl
theorem e15_18 : exq sa F N S rt cd15 P Q 18 L st h = (tR st fun a s => opt (hO h a 2) fun fs => opt (fs[2]?) fun v => P 21 L (v :: s) h) := rfl
theorem e15_21 : exq sa F N S rt cd15 P Q 21 L st h = (pfd st h 2 2 0 fun s h' => P 24 L s h') := rfl
theorem e15_24 : exq sa F N S rt cd15 P Q 24 L st h = (ldR L 0 fun v => P 25 L (v :: st) h) := rfl
theorem e15_25 : exq sa F N S rt cd15 P Q 25 L st h = (ldR L 1 fun v => P 26 L (v :: st) h) := rfl
theorem e15_26 : exq sa F N S rt cd15 P Q 26 L st h = (tR st fun a s => opt (hO h a 2) fun fs => opt (fs[3]?) fun v => P 29 L (v :: s) h) := rfl
theorem e15_29 : exq sa F N S rt cd15 P Q 29 L st h = (pfd st h 2 3 0 fun s h' => P 32 L s h') := rfl
theorem e15_32 : exq sa F N S rt cd15 P Q 32 L st h = (ldR L 0 fun v => P 33 L (v :: st) h) := rfl
theorem e15_33 : exq sa F N S rt cd15 P Q 33 L st h = (ldR L 1 fun v => P 34 L (v :: st) h) := rfl
theorem e15_34 : exq sa F N S rt cd15 P Q 34 L st h = (tR st fun a s => opt (hO h a 2) fun fs => opt (fs[9]?) fun v => P 37 L (v :: s) h) := rfl
theorem e15_37 : exq sa F N S rt cd15 P Q 37 L st h = (pfd st h 2 9 0 fun s h' => P 40 L s h') := rfl
theorem e15_40 : exq sa F N S rt cd15 P Q 40 L st h = (ldR L 0 fun v => P 41 L (v :: st) h) := rfl
theorem e15_41 : exq sa F N S rt cd15 P Q 41 L st h = (ldR L 1 fun v => P 42 L (v :: st) h) := rfl
theorem e15_42 : exq sa F N S rt cd15 P Q 42 L st h = (tR st fun a s => opt (hO h a 2) fun fs => opt (fs[13]?) fun v => P 45 L (v :: s) h) := rfl
theorem e15_45 : exq sa F N S rt cd15 P Q 45 L st h = (pfd st h 2 13 0 fun s h' => P 48 L s h') := rfl
theorem e15_48 : exq sa F N S rt cd15 P Q 48 L st h = (ldR L 0 fun v => P 49 L (v :: st) h) := rfl
theorem e15_49 : exq sa F N S rt cd15 P Q 49 L st h = (ldR L 1 fun v => P 50 L (v :: st) h) := rfl
theorem e15_50 : exq sa F N S rt cd15 P Q 50 L st h = (tR st fun a s => opt (hO h a 2) fun fs => opt (fs[14]?) fun v => P 53 L (v :: s) h) := rfl
theorem e15_53 : exq sa F N S rt cd15 P Q 53 L st h = (pfd st h 2 14 0 fun s h' => P 56 L s h') := rfl
theorem e15_56 : exq sa F N S rt cd15 P Q 56 L st h = (P 57 L (.int (Int32.ofInt (0)) :: st) h) := rfl
theorem e15_57 : exq sa F N S rt cd15 P Q 57 L st h = (tI st fun v s => lvS L 2 (.int v) fun L' => P 58 L' s h) := rfl
theorem e15_58 : exq sa F N S rt cd15 P Q 58 L st h = (ldI L 2 fun v => P 59 L (.int v :: st) h) := rfl
theorem e15_59 : exq sa F N S rt cd15 P Q 59 L st h = (ldR L 0 fun v => P 60 L (v :: st) h) := rfl
theorem e15_60 : exq sa F N S rt cd15 P Q 60 L st h = (tR st fun a s => opt (hO h a 2) fun fs => opt (fs[3]?) fun v => P 63 L (v :: s) h) := rfl
theorem e15_63 : exq sa F N S rt cd15 P Q 63 L st h = (tI st fun b s => tI s fun a s => br (b ≤ a) (P 132 L s h) (P 66 L s h)) := rfl
theorem e15_66 : exq sa F N S rt cd15 P Q 66 L st h = (ldR L 0 fun v => P 67 L (v :: st) h) := rfl
theorem e15_67 : exq sa F N S rt cd15 P Q 67 L st h = (tR st fun a s => opt (hO h a 2) fun fs => opt (fs[4]?) fun v => P 70 L (v :: s) h) := rfl
theorem e15_70 : exq sa F N S rt cd15 P Q 70 L st h = (ldI L 2 fun v => P 71 L (.int v :: st) h) := rfl
theorem e15_71 : exq sa F N S rt cd15 P Q 71 L st h = (ldR L 1 fun v => P 72 L (v :: st) h) := rfl
theorem e15_72 : exq sa F N S rt cd15 P Q 72 L st h = (tR st fun a s => opt (hO h a 2) fun fs => opt (fs[4]?) fun v => P 75 L (v :: s) h) := rfl
theorem e15_75 : exq sa F N S rt cd15 P Q 75 L st h = (ldI L 2 fun v => P 76 L (.int v :: st) h) := rfl
theorem e15_76 : exq sa F N S rt cd15 P Q 76 L st h = (ald sa st h fun v s => P 77 L (.int v :: s) h) := rfl
theorem e15_77 : exq sa F N S rt cd15 P Q 77 L st h = (tI st fun v s => tI s fun i s => tR s fun a s => opt (hI h a) fun q => ix i q.1 fun k => P 78 L s (hS h a (.inl (0, q.1, .inl (upd q.2 k v))))) := rfl
theorem e15_78 : exq sa F N S rt cd15 P Q 78 L st h = (ldR L 0 fun v => P 79 L (v :: st) h) := rfl
theorem e15_79 : exq sa F N S rt cd15 P Q 79 L st h = (tR st fun a s => opt (hO h a 2) fun fs => opt (fs[5]?) fun v => P 82 L (v :: s) h) := rfl
theorem e15_82 : exq sa F N S rt cd15 P Q 82 L st h = (ldI L 2 fun v => P 83 L (.int v :: st) h) := rfl
theorem e15_83 : exq sa F N S rt cd15 P Q 83 L st h = (ldR L 1 fun v => P 84 L (v :: st) h) := rfl
theorem e15_84 : exq sa F N S rt cd15 P Q 84 L st h = (tR st fun a s => opt (hO h a 2) fun fs => opt (fs[5]?) fun v => P 87 L (v :: s) h) := rfl
theorem e15_87 : exq sa F N S rt cd15 P Q 87 L st h = (ldI L 2 fun v => P 88 L (.int v :: st) h) := rfl
theorem e15_88 : exq sa F N S rt cd15 P Q 88 L st h = (ald sa st h fun v s => P 89 L (.int v :: s) h) := rfl
theorem e15_89 : exq sa F N S rt cd15 P Q 89 L st h = (tI st fun v s => tI s fun i s => tR s fun a s => opt (hI h a) fun q => ix i q.1 fun k => P 90 L s (hS h a (.inl (0, q.1, .inl (upd q.2 k v))))) := rfl
theorem e15_90 : exq sa F N S rt cd15 P Q 90 L st h = (ldR L 0 fun v => P 91 L (v :: st) h) := rfl
theorem e15_91 : exq sa F N S rt cd15 P Q 91 L st h = (tR st fun a s => opt (hO h a 2) fun fs => opt (fs[6]?) fun v => P 94 L (v :: s) h) := rfl
theorem e15_94 : exq sa F N S rt cd15 P Q 94 L st h = (ldI L 2 fun v => P 95 L (.int v :: st) h) := rfl
theorem e15_95 : exq sa F N S rt cd15 P Q 95 L st h = (ldR L 1 fun v => P 96 L (v :: st) h) := rfl
theorem e15_96 : exq sa F N S rt cd15 P Q 96 L st h = (tR st fun a s => opt (hO h a 2) fun fs => opt (fs[6]?) fun v => P 99 L (v :: s) h) := rfl
theorem e15_99 : exq sa F N S rt cd15 P Q 99 L st h = (ldI L 2 fun v => P 100 L (.int v :: st) h) := rfl
theorem e15_100 : exq sa F N S rt cd15 P Q 100 L st h = (ald sa st h fun v s => P 101 L (.int v :: s) h) := rfl
theorem e15_101 : exq sa F N S rt cd15 P Q 101 L st h = (tI st fun v s => tI s fun i s => tR s fun a s => opt (hI h a) fun q => ix i q.1 fun k => P 102 L s (hS h a (.inl (0, q.1, .inl (upd q.2 k v))))) := rfl
theorem e15_102 : exq sa F N S rt cd15 P Q 102 L st h = (ldR L 0 fun v => P 103 L (v :: st) h) := rfl
theorem e15_103 : exq sa F N S rt cd15 P Q 103 L st h = (tR st fun a s => opt (hO h a 2) fun fs => opt (fs[7]?) fun v => P 106 L (v :: s) h) := rfl
theorem e15_106 : exq sa F N S rt cd15 P Q 106 L st h = (ldI L 2 fun v => P 107 L (.int v :: st) h) := rfl
theorem e15_107 : exq sa F N S rt cd15 P Q 107 L st h = (ldR L 1 fun v => P 108 L (v :: st) h) := rfl
theorem e15_108 : exq sa F N S rt cd15 P Q 108 L st h = (tR st fun a s => opt (hO h a 2) fun fs => opt (fs[7]?) fun v => P 111 L (v :: s) h) := rfl
theorem e15_111 : exq sa F N S rt cd15 P Q 111 L st h = (ldI L 2 fun v => P 112 L (.int v :: st) h) := rfl
theorem e15_112 : exq sa F N S rt cd15 P Q 112 L st h = (ald sa st h fun v s => P 113 L (.int v :: s) h) := rfl
theorem e15_113 : exq sa F N S rt cd15 P Q 113 L st h = (tI st fun v s => tI s fun i s => tR s fun a s => opt (hI h a) fun q => ix i q.1 fun k => P 114 L s (hS h a (.inl (0, q.1, .inl (upd q.2 k v))))) := rfl
theorem e15_114 : exq sa F N S rt cd15 P Q 114 L st h = (ldR L 0 fun v => P 115 L (v :: st) h) := rfl
theorem e15_115 : exq sa F N S rt cd15 P Q 115 L st h = (tR st fun a s => opt (hO h a 2) fun fs => opt (fs[8]?) fun v => P 118 L (v :: s) h) := rfl
theorem e15_118 : exq sa F N S rt cd15 P Q 118 L st h = (ldI L 2 fun v => P 119 L (.int v :: st) h) := rfl
theorem e15_119 : exq sa F N S rt cd15 P Q 119 L st h = (ldR L 1 fun v => P 120 L (v :: st) h) := rfl
theorem e15_120 : exq sa F N S rt cd15 P Q 120 L st h = (tR st fun a s => opt (hO h a 2) fun fs => opt (fs[8]?) fun v => P 123 L (v :: s) h) := rfl
theorem e15_123 : exq sa F N S rt cd15 P Q 123 L st h = (ldI L 2 fun v => P 124 L (.int v :: st) h) := rfl
theorem e15_124 : exq sa F N S rt cd15 P Q 124 L st h = (ald sa st h fun v s => P 125 L (.int v :: s) h) := rfl
theorem e15_125 : exq sa F N S rt cd15 P Q 125 L st h = (tI st fun v s => tI s fun i s => tR s fun a s => opt (hI h a) fun q => ix i q.1 fun k => P 126 L s (hS h a (.inl (0, q.1, .inl (upd q.2 k v))))) := rfl
theorem e15_126 : exq sa F N S rt cd15 P Q 126 L st h = (ldI L 2 fun v => lvS L 2 (.int (v + Int32.ofInt (1))) fun L' => P 129 L' st h) := rfl
theorem e15_129 : exq sa F N S rt cd15 P Q 129 L st h = (P 58 L st h) := rfl
theorem e15_132 : exq sa F N S rt cd15 P Q 132 L st h = (P 133 L (.int (Int32.ofInt (0)) :: st) h) := rfl
theorem e15_133 : exq sa F N S rt cd15 P Q 133 L st h = (tI st fun v s => lvS L 2 (.int v) fun L' => P 134 L' s h) := rfl
theorem e15_134 : exq sa F N S rt cd15 P Q 134 L st h = (ldI L 2 fun v => P 135 L (.int v :: st) h) := rfl
theorem e15_135 : exq sa F N S rt cd15 P Q 135 L st h = (ldR L 0 fun v => P 136 L (v :: st) h) := rfl
theorem e15_136 : exq sa F N S rt cd15 P Q 136 L st h = (tR st fun a s => opt (hO h a 2) fun fs => opt (fs[9]?) fun v => P 139 L (v :: s) h) := rfl
theorem e15_139 : exq sa F N S rt cd15 P Q 139 L st h = (tI st fun b s => tI s fun a s => br (b ≤ a) (P 184 L s h) (P 142 L s h)) := rfl
theorem e15_142 : exq sa F N S rt cd15 P Q 142 L st h = (ldR L 0 fun v => P 143 L (v :: st) h) := rfl
theorem e15_143 : exq sa F N S rt cd15 P Q 143 L st h = (tR st fun a s => opt (hO h a 2) fun fs => opt (fs[10]?) fun v => P 146 L (v :: s) h) := rfl
theorem e15_146 : exq sa F N S rt cd15 P Q 146 L st h = (ldI L 2 fun v => P 147 L (.int v :: st) h) := rfl
theorem e15_147 : exq sa F N S rt cd15 P Q 147 L st h = (ldR L 1 fun v => P 148 L (v :: st) h) := rfl
theorem e15_148 : exq sa F N S rt cd15 P Q 148 L st h = (tR st fun a s => opt (hO h a 2) fun fs => opt (fs[10]?) fun v => P 151 L (v :: s) h) := rfl
theorem e15_151 : exq sa F N S rt cd15 P Q 151 L st h = (ldI L 2 fun v => P 152 L (.int v :: st) h) := rfl
theorem e15_152 : exq sa F N S rt cd15 P Q 152 L st h = (ald sa st h fun v s => P 153 L (.int v :: s) h) := rfl
theorem e15_153 : exq sa F N S rt cd15 P Q 153 L st h = (tI st fun v s => tI s fun i s => tR s fun a s => opt (hI h a) fun q => ix i q.1 fun k => P 154 L s (hS h a (.inl (0, q.1, .inl (upd q.2 k v))))) := rfl
theorem e15_154 : exq sa F N S rt cd15 P Q 154 L st h = (ldR L 0 fun v => P 155 L (v :: st) h) := rfl
theorem e15_155 : exq sa F N S rt cd15 P Q 155 L st h = (tR st fun a s => opt (hO h a 2) fun fs => opt (fs[11]?) fun v => P 158 L (v :: s) h) := rfl
theorem e15_158 : exq sa F N S rt cd15 P Q 158 L st h = (ldI L 2 fun v => P 159 L (.int v :: st) h) := rfl
theorem e15_159 : exq sa F N S rt cd15 P Q 159 L st h = (ldR L 1 fun v => P 160 L (v :: st) h) := rfl
theorem e15_160 : exq sa F N S rt cd15 P Q 160 L st h = (tR st fun a s => opt (hO h a 2) fun fs => opt (fs[11]?) fun v => P 163 L (v :: s) h) := rfl
theorem e15_163 : exq sa F N S rt cd15 P Q 163 L st h = (ldI L 2 fun v => P 164 L (.int v :: st) h) := rfl
theorem e15_164 : exq sa F N S rt cd15 P Q 164 L st h = (ald sa st h fun v s => P 165 L (.int v :: s) h) := rfl
theorem e15_165 : exq sa F N S rt cd15 P Q 165 L st h = (tI st fun v s => tI s fun i s => tR s fun a s => opt (hI h a) fun q => ix i q.1 fun k => P 166 L s (hS h a (.inl (0, q.1, .inl (upd q.2 k v))))) := rfl
theorem e15_166 : exq sa F N S rt cd15 P Q 166 L st h = (ldR L 0 fun v => P 167 L (v :: st) h) := rfl
theorem e15_167 : exq sa F N S rt cd15 P Q 167 L st h = (tR st fun a s => opt (hO h a 2) fun fs => opt (fs[12]?) fun v => P 170 L (v :: s) h) := rfl
theorem e15_170 : exq sa F N S rt cd15 P Q 170 L st h = (ldI L 2 fun v => P 171 L (.int v :: st) h) := rfl
theorem e15_171 : exq sa F N S rt cd15 P Q 171 L st h = (ldR L 1 fun v => P 172 L (v :: st) h) := rfl
theorem e15_172 : exq sa F N S rt cd15 P Q 172 L st h = (tR st fun a s => opt (hO h a 2) fun fs => opt (fs[12]?) fun v => P 175 L (v :: s) h) := rfl
theorem e15_175 : exq sa F N S rt cd15 P Q 175 L st h = (ldI L 2 fun v => P 176 L (.int v :: st) h) := rfl
theorem e15_176 : exq sa F N S rt cd15 P Q 176 L st h = (ald sa st h fun v s => P 177 L (.int v :: s) h) := rfl
theorem e15_177 : exq sa F N S rt cd15 P Q 177 L st h = (tI st fun v s => tI s fun i s => tR s fun a s => opt (hI h a) fun q => ix i q.1 fun k => P 178 L s (hS h a (.inl (0, q.1, .inl (upd q.2 k v))))) := rfl
theorem e15_178 : exq sa F N S rt cd15 P Q 178 L st h = (ldI L 2 fun v => lvS L 2 (.int (v + Int32.ofInt (1))) fun L' => P 181 L' st h) := rfl
theorem e15_181 : exq sa F N S rt cd15 P Q 181 L st h = (P 134 L st h) := rfl
theorem e15_184 : exq sa F N S rt cd15 P Q 184 L st h = (st = [] ∧ rt = none ∧ Q none h) := rfl
theorem e16_0 : exq sa F N S rt cd16 P Q 0 L st h = (ldR L 0 fun v => P 1 L (v :: st) h) := rfl
theorem e16_1 : exq sa F N S rt cd16 P Q 1 L st h = (tR st fun a s => opt (hO h a 2) fun fs => opt (fs[3]?) fun v => P 4 L (v :: s) h) := rfl
theorem e16_4 : exq sa F N S rt cd16 P Q 4 L st h = (tI st fun a s => br (a ≤ 0) (P 11 L s h) (P 7 L s h)) := rfl
theorem e16_7 : exq sa F N S rt cd16 P Q 7 L st h = (P 8 L (.int (Int32.ofInt (1)) :: st) h) := rfl
theorem e16_8 : exq sa F N S rt cd16 P Q 8 L st h = (P 12 L st h) := rfl
theorem e16_11 : exq sa F N S rt cd16 P Q 11 L st h = (P 12 L (.int (Int32.ofInt (0)) :: st) h) := rfl
theorem e16_12 : exq sa F N S rt cd16 P Q 12 L st h = (tI st fun v s => s = [] ∧ (rt = some .int ∨ (rt = some .boolean ∧ (v = 0 ∨ v = 1))) ∧ Q (some (.int v)) h) := rfl
theorem e17_0 : exq sa F N S rt cd17 P Q 0 L st h = (ldI L 1 fun v => P 1 L (.int v :: st) h) := rfl
theorem e17_1 : exq sa F N S rt cd17 P Q 1 L st h = (P 2 L (.int (Int32.ofInt (0)) :: st) h) := rfl
theorem e17_2 : exq sa F N S rt cd17 P Q 2 L st h = (ldR L 0 fun v => P 3 L (v :: st) h) := rfl
theorem e17_3 : exq sa F N S rt cd17 P Q 3 L st h = (tR st fun a s => opt (hO h a 2) fun fs => opt (fs[3]?) fun v => P 6 L (v :: s) h) := rfl
theorem e17_6 : exq sa F N S rt cd17 P Q 6 L st h = (P 7 L (.int (Int32.ofInt (1)) :: st) h) := rfl
theorem e17_7 : exq sa F N S rt cd17 P Q 7 L st h = (tI st fun b s => tI s fun a s => P 8 L (.int (a - b) :: s) h) := rfl
theorem e17_8 : exq sa F N S rt cd17 P Q 8 L st h = (ivS F 131 3 st h fun r s h' => P 11 L (pu r s) h') := rfl
theorem e17_11 : exq sa F N S rt cd17 P Q 11 L st h = (tI st fun v s => s = [] ∧ (rt = some .int ∨ (rt = some .boolean ∧ (v = 0 ∨ v = 1))) ∧ Q (some (.int v)) h) := rfl
theorem e18_0 : exq sa F N S rt cd18 P Q 0 L st h = (ldI L 1 fun v => P 1 L (.int v :: st) h) := rfl
theorem e18_1 : exq sa F N S rt cd18 P Q 1 L st h = (P 2 L (.int (Int32.ofInt (0)) :: st) h) := rfl
theorem e18_2 : exq sa F N S rt cd18 P Q 2 L st h = (ldR L 0 fun v => P 3 L (v :: st) h) := rfl
theorem e18_3 : exq sa F N S rt cd18 P Q 3 L st h = (tR st fun a s => opt (hO h a 2) fun fs => opt (fs[9]?) fun v => P 6 L (v :: s) h) := rfl
theorem e18_6 : exq sa F N S rt cd18 P Q 6 L st h = (P 7 L (.int (Int32.ofInt (1)) :: st) h) := rfl
theorem e18_7 : exq sa F N S rt cd18 P Q 7 L st h = (tI st fun b s => tI s fun a s => P 8 L (.int (a - b) :: s) h) := rfl
theorem e18_8 : exq sa F N S rt cd18 P Q 8 L st h = (ivS F 131 3 st h fun r s h' => P 11 L (pu r s) h') := rfl
theorem e18_11 : exq sa F N S rt cd18 P Q 11 L st h = (tI st fun v s => s = [] ∧ (rt = some .int ∨ (rt = some .boolean ∧ (v = 0 ∨ v = 1))) ∧ Q (some (.int v)) h) := rfl
theorem e19_0 : exq sa F N S rt cd19 P Q 0 L st h = (ldI L 1 fun v => P 1 L (.int v :: st) h) := rfl
theorem e19_1 : exq sa F N S rt cd19 P Q 1 L st h = (P 2 L (.int (Int32.ofInt (0)) :: st) h) := rfl
theorem e19_2 : exq sa F N S rt cd19 P Q 2 L st h = (ldR L 0 fun v => P 3 L (v :: st) h) := rfl
theorem e19_3 : exq sa F N S rt cd19 P Q 3 L st h = (tR st fun a s => opt (hO h a 2) fun fs => opt (fs[0]?) fun v => P 6 L (v :: s) h) := rfl
theorem e19_6 : exq sa F N S rt cd19 P Q 6 L st h = (P 7 L (.int (Int32.ofInt (1)) :: st) h) := rfl
theorem e19_7 : exq sa F N S rt cd19 P Q 7 L st h = (tI st fun b s => tI s fun a s => P 8 L (.int (a - b) :: s) h) := rfl
theorem e19_8 : exq sa F N S rt cd19 P Q 8 L st h = (ivS F 131 3 st h fun r s h' => P 11 L (pu r s) h') := rfl
theorem e19_11 : exq sa F N S rt cd19 P Q 11 L st h = (tI st fun v s => s = [] ∧ (rt = some .int ∨ (rt = some .boolean ∧ (v = 0 ∨ v = 1))) ∧ Q (some (.int v)) h) := rfl
theorem e20_0 : exq sa F N S rt cd20 P Q 0 L st h = (ldR L 0 fun v => P 1 L (v :: st) h) := rfl
theorem e20_1 : exq sa F N S rt cd20 P Q 1 L st h = (tR st fun a s => opt (hO h a 2) fun fs => opt (fs[13]?) fun v => P 4 L (v :: s) h) := rfl
theorem e20_4 : exq sa F N S rt cd20 P Q 4 L st h = (ldI L 1 fun v => P 5 L (.int v :: st) h) := rfl
theorem e20_5 : exq sa F N S rt cd20 P Q 5 L st h = (tI st fun b s => tI s fun a s => P 6 L (.int (a >>> (b &&& 31)) :: s) h) := rfl
theorem e20_6 : exq sa F N S rt cd20 P Q 6 L st h = (P 7 L (.int (Int32.ofInt (1)) :: st) h) := rfl
theorem e20_7 : exq sa F N S rt cd20 P Q 7 L st h = (tI st fun b s => tI s fun a s => P 8 L (.int (a &&& b) :: s) h) := rfl
theorem e20_8 : exq sa F N S rt cd20 P Q 8 L st h = (P 9 L (.int (Int32.ofInt (1)) :: st) h) := rfl
theorem e20_9 : exq sa F N S rt cd20 P Q 9 L st h = (tI st fun b s => tI s fun a s => br (a = b) (P 12 L s h) (P 16 L s h)) := rfl
theorem e20_12 : exq sa F N S rt cd20 P Q 12 L st h = (P 13 L (.int (Int32.ofInt (1)) :: st) h) := rfl
theorem e20_13 : exq sa F N S rt cd20 P Q 13 L st h = (P 17 L st h) := rfl
theorem e20_16 : exq sa F N S rt cd20 P Q 16 L st h = (P 17 L (.int (Int32.ofInt (0)) :: st) h) := rfl
theorem e20_17 : exq sa F N S rt cd20 P Q 17 L st h = (tI st fun v s => s = [] ∧ (rt = some .int ∨ (rt = some .boolean ∧ (v = 0 ∨ v = 1))) ∧ Q (some (.int v)) h) := rfl
theorem e21_0 : exq sa F N S rt cd21 P Q 0 L st h = (P 1 L (.int (Int32.ofInt (0)) :: st) h) := rfl
theorem e21_1 : exq sa F N S rt cd21 P Q 1 L st h = (tI st fun v s => lvS L 1 (.int v) fun L' => P 2 L' s h) := rfl
theorem e21_2 : exq sa F N S rt cd21 P Q 2 L st h = (P 3 L (.int (Int32.ofInt (0)) :: st) h) := rfl
theorem e21_3 : exq sa F N S rt cd21 P Q 3 L st h = (tI st fun v s => lvS L 2 (.int v) fun L' => P 4 L' s h) := rfl
theorem e21_4 : exq sa F N S rt cd21 P Q 4 L st h = (ldI L 2 fun v => P 5 L (.int v :: st) h) := rfl
theorem e21_5 : exq sa F N S rt cd21 P Q 5 L st h = (ldR L 0 fun v => P 6 L (v :: st) h) := rfl
theorem e21_6 : exq sa F N S rt cd21 P Q 6 L st h = (tR st fun a s => opt (hO h a 2) fun fs => opt (fs[9]?) fun v => P 9 L (v :: s) h) := rfl
theorem e21_9 : exq sa F N S rt cd21 P Q 9 L st h = (tI st fun b s => tI s fun a s => br (b ≤ a) (P 39 L s h) (P 12 L s h)) := rfl
theorem e21_12 : exq sa F N S rt cd21 P Q 12 L st h = (ldI L 1 fun v => P 13 L (.int v :: st) h) := rfl
theorem e21_13 : exq sa F N S rt cd21 P Q 13 L st h = (ldR L 0 fun v => P 14 L (v :: st) h) := rfl
theorem e21_14 : exq sa F N S rt cd21 P Q 14 L st h = (ldI L 2 fun v => P 15 L (.int v :: st) h) := rfl
theorem e21_15 : exq sa F N S rt cd21 P Q 15 L st h = (ivV F 20 2 2 st h fun r s h' => P 18 L (pu r s) h') := rfl
theorem e21_18 : exq sa F N S rt cd21 P Q 18 L st h = (tI st fun a s => br (a = 0) (P 30 L s h) (P 21 L s h)) := rfl
theorem e21_21 : exq sa F N S rt cd21 P Q 21 L st h = (ldR L 0 fun v => P 22 L (v :: st) h) := rfl
theorem e21_22 : exq sa F N S rt cd21 P Q 22 L st h = (tR st fun a s => opt (hO h a 2) fun fs => opt (fs[11]?) fun v => P 25 L (v :: s) h) := rfl
theorem e21_25 : exq sa F N S rt cd21 P Q 25 L st h = (ldI L 2 fun v => P 26 L (.int v :: st) h) := rfl
theorem e21_26 : exq sa F N S rt cd21 P Q 26 L st h = (ald sa st h fun v s => P 27 L (.int v :: s) h) := rfl
theorem e21_27 : exq sa F N S rt cd21 P Q 27 L st h = (P 31 L st h) := rfl
theorem e21_30 : exq sa F N S rt cd21 P Q 30 L st h = (P 31 L (.int (Int32.ofInt (0)) :: st) h) := rfl
theorem e21_31 : exq sa F N S rt cd21 P Q 31 L st h = (tI st fun b s => tI s fun a s => P 32 L (.int (a + b) :: s) h) := rfl
theorem e21_32 : exq sa F N S rt cd21 P Q 32 L st h = (tI st fun v s => lvS L 1 (.int v) fun L' => P 33 L' s h) := rfl
theorem e21_33 : exq sa F N S rt cd21 P Q 33 L st h = (ldI L 2 fun v => lvS L 2 (.int (v + Int32.ofInt (1))) fun L' => P 36 L' st h) := rfl
theorem e21_36 : exq sa F N S rt cd21 P Q 36 L st h = (P 4 L st h) := rfl
theorem e21_39 : exq sa F N S rt cd21 P Q 39 L st h = (ldI L 1 fun v => P 40 L (.int v :: st) h) := rfl
theorem e21_40 : exq sa F N S rt cd21 P Q 40 L st h = (tI st fun v s => s = [] ∧ (rt = some .int ∨ (rt = some .boolean ∧ (v = 0 ∨ v = 1))) ∧ Q (some (.int v)) h) := rfl
theorem e22_0 : exq sa F N S rt cd22 P Q 0 L st h = (P 1 L (.int (Int32.ofInt (0)) :: st) h) := rfl
theorem e22_1 : exq sa F N S rt cd22 P Q 1 L st h = (tI st fun v s => lvS L 2 (.int v) fun L' => P 2 L' s h) := rfl
theorem e22_2 : exq sa F N S rt cd22 P Q 2 L st h = (P 3 L (.int (Int32.ofInt (0)) :: st) h) := rfl
theorem e22_3 : exq sa F N S rt cd22 P Q 3 L st h = (tI st fun v s => lvS L 3 (.int v) fun L' => P 4 L' s h) := rfl
theorem e22_4 : exq sa F N S rt cd22 P Q 4 L st h = (ldI L 3 fun v => P 5 L (.int v :: st) h) := rfl
theorem e22_5 : exq sa F N S rt cd22 P Q 5 L st h = (ldR L 0 fun v => P 6 L (v :: st) h) := rfl
theorem e22_6 : exq sa F N S rt cd22 P Q 6 L st h = (tR st fun a s => opt (hO h a 2) fun fs => opt (fs[3]?) fun v => P 9 L (v :: s) h) := rfl
theorem e22_9 : exq sa F N S rt cd22 P Q 9 L st h = (tI st fun b s => tI s fun a s => br (b ≤ a) (P 38 L s h) (P 12 L s h)) := rfl
theorem e22_12 : exq sa F N S rt cd22 P Q 12 L st h = (ldI L 2 fun v => P 13 L (.int v :: st) h) := rfl
theorem e22_13 : exq sa F N S rt cd22 P Q 13 L st h = (ldR L 0 fun v => P 14 L (v :: st) h) := rfl
theorem e22_14 : exq sa F N S rt cd22 P Q 14 L st h = (tR st fun a s => opt (hO h a 2) fun fs => opt (fs[7]?) fun v => P 17 L (v :: s) h) := rfl
theorem e22_17 : exq sa F N S rt cd22 P Q 17 L st h = (ldI L 3 fun v => P 18 L (.int v :: st) h) := rfl
theorem e22_18 : exq sa F N S rt cd22 P Q 18 L st h = (ald sa st h fun v s => P 19 L (.int v :: s) h) := rfl
theorem e22_19 : exq sa F N S rt cd22 P Q 19 L st h = (ldI L 1 fun v => P 20 L (.int v :: st) h) := rfl
theorem e22_20 : exq sa F N S rt cd22 P Q 20 L st h = (tI st fun b s => tI s fun a s => br (a = b) (P 23 L s h) (P 29 L s h)) := rfl
theorem e22_23 : exq sa F N S rt cd22 P Q 23 L st h = (P 24 L (.int (Int32.ofInt (1)) :: st) h) := rfl
theorem e22_24 : exq sa F N S rt cd22 P Q 24 L st h = (ldI L 3 fun v => P 25 L (.int v :: st) h) := rfl
theorem e22_25 : exq sa F N S rt cd22 P Q 25 L st h = (tI st fun b s => tI s fun a s => P 26 L (.int (a <<< (b &&& 31)) :: s) h) := rfl
theorem e22_26 : exq sa F N S rt cd22 P Q 26 L st h = (P 30 L st h) := rfl
theorem e22_29 : exq sa F N S rt cd22 P Q 29 L st h = (P 30 L (.int (Int32.ofInt (0)) :: st) h) := rfl
theorem e22_30 : exq sa F N S rt cd22 P Q 30 L st h = (tI st fun b s => tI s fun a s => P 31 L (.int (a ||| b) :: s) h) := rfl
theorem e22_31 : exq sa F N S rt cd22 P Q 31 L st h = (tI st fun v s => lvS L 2 (.int v) fun L' => P 32 L' s h) := rfl
theorem e22_32 : exq sa F N S rt cd22 P Q 32 L st h = (ldI L 3 fun v => lvS L 3 (.int (v + Int32.ofInt (1))) fun L' => P 35 L' st h) := rfl
theorem e22_35 : exq sa F N S rt cd22 P Q 35 L st h = (P 4 L st h) := rfl
theorem e22_38 : exq sa F N S rt cd22 P Q 38 L st h = (ldI L 2 fun v => P 39 L (.int v :: st) h) := rfl
theorem e22_39 : exq sa F N S rt cd22 P Q 39 L st h = (tI st fun v s => s = [] ∧ (rt = some .int ∨ (rt = some .boolean ∧ (v = 0 ∨ v = 1))) ∧ Q (some (.int v)) h) := rfl
theorem e23_0 : exq sa F N S rt cd23 P Q 0 L st h = (ldR L 0 fun v => P 1 L (v :: st) h) := rfl
theorem e23_1 : exq sa F N S rt cd23 P Q 1 L st h = (ldI L 1 fun v => P 2 L (.int v :: st) h) := rfl
theorem e23_2 : exq sa F N S rt cd23 P Q 2 L st h = (P 3 L (.int (Int32.ofInt (1)) :: st) h) := rfl
theorem e23_3 : exq sa F N S rt cd23 P Q 3 L st h = (ivV F 26 3 2 st h fun r s h' => P 6 L (pu r s) h') := rfl
theorem e23_6 : exq sa F N S rt cd23 P Q 6 L st h = (st = [] ∧ rt = none ∧ Q none h) := rfl
theorem e24_0 : exq sa F N S rt cd24 P Q 0 L st h = (ldR L 0 fun v => P 1 L (v :: st) h) := rfl
theorem e24_1 : exq sa F N S rt cd24 P Q 1 L st h = (ldI L 1 fun v => P 2 L (.int v :: st) h) := rfl
theorem e24_2 : exq sa F N S rt cd24 P Q 2 L st h = (P 3 L (.int (Int32.ofInt (0)) :: st) h) := rfl
theorem e24_3 : exq sa F N S rt cd24 P Q 3 L st h = (ivV F 26 3 2 st h fun r s h' => P 6 L (pu r s) h') := rfl
theorem e24_6 : exq sa F N S rt cd24 P Q 6 L st h = (st = [] ∧ rt = none ∧ Q none h) := rfl
theorem e25_0 : exq sa F N S rt cd25 P Q 0 L st h = (P 1 L (.int (Int32.ofInt (0)) :: st) h) := rfl
theorem e25_1 : exq sa F N S rt cd25 P Q 1 L st h = (tI st fun v s => lvS L 3 (.int v) fun L' => P 2 L' s h) := rfl
theorem e25_2 : exq sa F N S rt cd25 P Q 2 L st h = (ldI L 3 fun v => P 3 L (.int v :: st) h) := rfl
theorem e25_3 : exq sa F N S rt cd25 P Q 3 L st h = (ldR L 0 fun v => P 4 L (v :: st) h) := rfl
theorem e25_4 : exq sa F N S rt cd25 P Q 4 L st h = (tR st fun a s => opt (hO h a 2) fun fs => opt (fs[3]?) fun v => P 7 L (v :: s) h) := rfl
theorem e25_7 : exq sa F N S rt cd25 P Q 7 L st h = (tI st fun b s => tI s fun a s => br (b ≤ a) (P 31 L s h) (P 10 L s h)) := rfl
theorem e25_10 : exq sa F N S rt cd25 P Q 10 L st h = (ldI L 1 fun v => P 11 L (.int v :: st) h) := rfl
theorem e25_11 : exq sa F N S rt cd25 P Q 11 L st h = (ldI L 3 fun v => P 12 L (.int v :: st) h) := rfl
theorem e25_12 : exq sa F N S rt cd25 P Q 12 L st h = (tI st fun b s => tI s fun a s => P 13 L (.int (a >>> (b &&& 31)) :: s) h) := rfl
theorem e25_13 : exq sa F N S rt cd25 P Q 13 L st h = (P 14 L (.int (Int32.ofInt (1)) :: st) h) := rfl
theorem e25_14 : exq sa F N S rt cd25 P Q 14 L st h = (tI st fun b s => tI s fun a s => P 15 L (.int (a &&& b) :: s) h) := rfl
theorem e25_15 : exq sa F N S rt cd25 P Q 15 L st h = (P 16 L (.int (Int32.ofInt (1)) :: st) h) := rfl
theorem e25_16 : exq sa F N S rt cd25 P Q 16 L st h = (tI st fun b s => tI s fun a s => br (a = b) (P 19 L s h) (P 25 L s h)) := rfl
theorem e25_19 : exq sa F N S rt cd25 P Q 19 L st h = (ldR L 0 fun v => P 20 L (v :: st) h) := rfl
theorem e25_20 : exq sa F N S rt cd25 P Q 20 L st h = (ldI L 3 fun v => P 21 L (.int v :: st) h) := rfl
theorem e25_21 : exq sa F N S rt cd25 P Q 21 L st h = (ldI L 2 fun v => P 22 L (.int v :: st) h) := rfl
theorem e25_22 : exq sa F N S rt cd25 P Q 22 L st h = (ivV F 26 3 2 st h fun r s h' => P 25 L (pu r s) h') := rfl
theorem e25_25 : exq sa F N S rt cd25 P Q 25 L st h = (ldI L 3 fun v => lvS L 3 (.int (v + Int32.ofInt (1))) fun L' => P 28 L' st h) := rfl
theorem e25_28 : exq sa F N S rt cd25 P Q 28 L st h = (P 2 L st h) := rfl
theorem e25_31 : exq sa F N S rt cd25 P Q 31 L st h = (st = [] ∧ rt = none ∧ Q none h) := rfl
theorem e26_0 : exq sa F N S rt cd26 P Q 0 L st h = (ldR L 0 fun v => P 1 L (v :: st) h) := rfl
theorem e26_1 : exq sa F N S rt cd26 P Q 1 L st h = (tR st fun a s => opt (hO h a 2) fun fs => opt (fs[6]?) fun v => P 4 L (v :: s) h) := rfl
theorem e26_4 : exq sa F N S rt cd26 P Q 4 L st h = (ldI L 1 fun v => P 5 L (.int v :: st) h) := rfl
theorem e26_5 : exq sa F N S rt cd26 P Q 5 L st h = (P 6 L (.int (Int32.ofInt (0)) :: st) h) := rfl
theorem e26_6 : exq sa F N S rt cd26 P Q 6 L st h = (tI st fun v s => tI s fun i s => tR s fun a s => opt (hI h a) fun q => ix i q.1 fun k => P 7 L s (hS h a (.inl (0, q.1, .inl (upd q.2 k v))))) := rfl
theorem e26_7 : exq sa F N S rt cd26 P Q 7 L st h = (ldR L 0 fun v => P 8 L (v :: st) h) := rfl
theorem e26_8 : exq sa F N S rt cd26 P Q 8 L st h = (tR st fun a s => opt (hO h a 2) fun fs => opt (fs[7]?) fun v => P 11 L (v :: s) h) := rfl
theorem e26_11 : exq sa F N S rt cd26 P Q 11 L st h = (ldI L 1 fun v => P 12 L (.int v :: st) h) := rfl
theorem e26_12 : exq sa F N S rt cd26 P Q 12 L st h = (ldI L 2 fun v => P 13 L (.int v :: st) h) := rfl
theorem e26_13 : exq sa F N S rt cd26 P Q 13 L st h = (tI st fun v s => tI s fun i s => tR s fun a s => opt (hI h a) fun q => ix i q.1 fun k => P 14 L s (hS h a (.inl (0, q.1, .inl (upd q.2 k v))))) := rfl
theorem e26_14 : exq sa F N S rt cd26 P Q 14 L st h = (ldR L 0 fun v => P 15 L (v :: st) h) := rfl
theorem e26_15 : exq sa F N S rt cd26 P Q 15 L st h = (tR st fun a s => opt (hO h a 2) fun fs => opt (fs[8]?) fun v => P 18 L (v :: s) h) := rfl
theorem e26_18 : exq sa F N S rt cd26 P Q 18 L st h = (ldI L 1 fun v => P 19 L (.int v :: st) h) := rfl
theorem e26_19 : exq sa F N S rt cd26 P Q 19 L st h = (P 20 L (.int (Int32.ofInt (0)) :: st) h) := rfl
theorem e26_20 : exq sa F N S rt cd26 P Q 20 L st h = (tI st fun v s => tI s fun i s => tR s fun a s => opt (hI h a) fun q => ix i q.1 fun k => P 21 L s (hS h a (.inl (0, q.1, .inl (upd q.2 k v))))) := rfl
theorem e26_21 : exq sa F N S rt cd26 P Q 21 L st h = (st = [] ∧ rt = none ∧ Q none h) := rfl
theorem e27_0 : exq sa F N S rt cd27 P Q 0 L st h = (P 1 L (.int (Int32.ofInt (0)) :: st) h) := rfl
theorem e27_1 : exq sa F N S rt cd27 P Q 1 L st h = (tI st fun v s => lvS L 2 (.int v) fun L' => P 2 L' s h) := rfl
theorem e27_2 : exq sa F N S rt cd27 P Q 2 L st h = (ldI L 2 fun v => P 3 L (.int v :: st) h) := rfl
theorem e27_3 : exq sa F N S rt cd27 P Q 3 L st h = (ldI L 1 fun v => P 4 L (.int v :: st) h) := rfl
theorem e27_4 : exq sa F N S rt cd27 P Q 4 L st h = (tI st fun b s => tI s fun a s => br (b ≤ a) (P 131 L s h) (P 7 L s h)) := rfl
theorem e27_7 : exq sa F N S rt cd27 P Q 7 L st h = (P 8 L (.int (Int32.ofInt (0)) :: st) h) := rfl
theorem e27_8 : exq sa F N S rt cd27 P Q 8 L st h = (tI st fun v s => lvS L 3 (.int v) fun L' => P 9 L' s h) := rfl
theorem e27_9 : exq sa F N S rt cd27 P Q 9 L st h = (ldI L 3 fun v => P 10 L (.int v :: st) h) := rfl
theorem e27_10 : exq sa F N S rt cd27 P Q 10 L st h = (ldR L 0 fun v => P 11 L (v :: st) h) := rfl
theorem e27_11 : exq sa F N S rt cd27 P Q 11 L st h = (tR st fun a s => opt (hO h a 2) fun fs => opt (fs[9]?) fun v => P 14 L (v :: s) h) := rfl
theorem e27_14 : exq sa F N S rt cd27 P Q 14 L st h = (tI st fun b s => tI s fun a s => br (b ≤ a) (P 28 L s h) (P 17 L s h)) := rfl
theorem e27_17 : exq sa F N S rt cd27 P Q 17 L st h = (ldR L 0 fun v => P 18 L (v :: st) h) := rfl
theorem e27_18 : exq sa F N S rt cd27 P Q 18 L st h = (ldI L 3 fun v => P 19 L (.int v :: st) h) := rfl
theorem e27_19 : exq sa F N S rt cd27 P Q 19 L st h = (ivV F 28 2 2 st h fun r s h' => P 22 L (pu r s) h') := rfl
theorem e27_22 : exq sa F N S rt cd27 P Q 22 L st h = (ldI L 3 fun v => lvS L 3 (.int (v + Int32.ofInt (1))) fun L' => P 25 L' st h) := rfl
theorem e27_25 : exq sa F N S rt cd27 P Q 25 L st h = (P 9 L st h) := rfl
theorem e27_28 : exq sa F N S rt cd27 P Q 28 L st h = (P 29 L (.int (Int32.ofInt (0)) :: st) h) := rfl
theorem e27_29 : exq sa F N S rt cd27 P Q 29 L st h = (tI st fun v s => lvS L 3 (.int v) fun L' => P 30 L' s h) := rfl
theorem e27_30 : exq sa F N S rt cd27 P Q 30 L st h = (ldI L 3 fun v => P 31 L (.int v :: st) h) := rfl
theorem e27_31 : exq sa F N S rt cd27 P Q 31 L st h = (ldR L 0 fun v => P 32 L (v :: st) h) := rfl
theorem e27_32 : exq sa F N S rt cd27 P Q 32 L st h = (tR st fun a s => opt (hO h a 2) fun fs => opt (fs[3]?) fun v => P 35 L (v :: s) h) := rfl
theorem e27_35 : exq sa F N S rt cd27 P Q 35 L st h = (tI st fun b s => tI s fun a s => br (b ≤ a) (P 115 L s h) (P 38 L s h)) := rfl
theorem e27_38 : exq sa F N S rt cd27 P Q 38 L st h = (ldR L 0 fun v => P 39 L (v :: st) h) := rfl
theorem e27_39 : exq sa F N S rt cd27 P Q 39 L st h = (tR st fun a s => opt (hO h a 2) fun fs => opt (fs[7]?) fun v => P 42 L (v :: s) h) := rfl
theorem e27_42 : exq sa F N S rt cd27 P Q 42 L st h = (ldI L 3 fun v => P 43 L (.int v :: st) h) := rfl
theorem e27_43 : exq sa F N S rt cd27 P Q 43 L st h = (ald sa st h fun v s => P 44 L (.int v :: s) h) := rfl
theorem e27_44 : exq sa F N S rt cd27 P Q 44 L st h = (P 45 L (.int (Int32.ofInt (1)) :: st) h) := rfl
theorem e27_45 : exq sa F N S rt cd27 P Q 45 L st h = (tI st fun b s => tI s fun a s => br (a = b) (P 48 L s h) (P 60 L s h)) := rfl
theorem e27_48 : exq sa F N S rt cd27 P Q 48 L st h = (ldR L 0 fun v => P 49 L (v :: st) h) := rfl
theorem e27_49 : exq sa F N S rt cd27 P Q 49 L st h = (ldI L 3 fun v => P 50 L (.int v :: st) h) := rfl
theorem e27_50 : exq sa F N S rt cd27 P Q 50 L st h = (ivV F 29 2 2 st h fun r s h' => P 53 L (pu r s) h') := rfl
theorem e27_53 : exq sa F N S rt cd27 P Q 53 L st h = (tI st fun a s => br (a = 0) (P 60 L s h) (P 56 L s h)) := rfl
theorem e27_56 : exq sa F N S rt cd27 P Q 56 L st h = (P 57 L (.int (Int32.ofInt (1)) :: st) h) := rfl
theorem e27_57 : exq sa F N S rt cd27 P Q 57 L st h = (P 61 L st h) := rfl
theorem e27_60 : exq sa F N S rt cd27 P Q 60 L st h = (P 61 L (.int (Int32.ofInt (0)) :: st) h) := rfl
theorem e27_61 : exq sa F N S rt cd27 P Q 61 L st h = (tI st fun v s => lvS L 4 (.int v) fun L' => P 63 L' s h) := rfl
theorem e27_63 : exq sa F N S rt cd27 P Q 63 L st h = (ldR L 0 fun v => P 64 L (v :: st) h) := rfl
theorem e27_64 : exq sa F N S rt cd27 P Q 64 L st h = (tR st fun a s => opt (hO h a 2) fun fs => opt (fs[2]?) fun v => P 67 L (v :: s) h) := rfl
theorem e27_67 : exq sa F N S rt cd27 P Q 67 L st h = (P 68 L (.int (Int32.ofInt (3)) :: st) h) := rfl
theorem e27_68 : exq sa F N S rt cd27 P Q 68 L st h = (tI st fun b s => tI s fun a s => ¬ b = 0 ∧ P 69 L (.int (a - a / b * b) :: s) h) := rfl
theorem e27_69 : exq sa F N S rt cd27 P Q 69 L st h = (P 70 L (.int (Int32.ofInt (2)) :: st) h) := rfl
theorem e27_70 : exq sa F N S rt cd27 P Q 70 L st h = (tI st fun b s => tI s fun a s => br (a = b) (P 73 L s h) (P 109 L s h)) := rfl
theorem e27_73 : exq sa F N S rt cd27 P Q 73 L st h = (ldI L 4 fun v => P 75 L (.int v :: st) h) := rfl
theorem e27_75 : exq sa F N S rt cd27 P Q 75 L st h = (tI st fun a s => br (a = 0) (P 78 L s h) (P 109 L s h)) := rfl
theorem e27_78 : exq sa F N S rt cd27 P Q 78 L st h = (ldR L 0 fun v => P 79 L (v :: st) h) := rfl
theorem e27_79 : exq sa F N S rt cd27 P Q 79 L st h = (tR st fun a s => opt (hO h a 2) fun fs => opt (fs[7]?) fun v => P 82 L (v :: s) h) := rfl
theorem e27_82 : exq sa F N S rt cd27 P Q 82 L st h = (ldI L 3 fun v => P 83 L (.int v :: st) h) := rfl
theorem e27_83 : exq sa F N S rt cd27 P Q 83 L st h = (ald sa st h fun v s => P 84 L (.int v :: s) h) := rfl
theorem e27_84 : exq sa F N S rt cd27 P Q 84 L st h = (P 85 L (.int (Int32.ofInt (2)) :: st) h) := rfl
theorem e27_85 : exq sa F N S rt cd27 P Q 85 L st h = (tI st fun b s => tI s fun a s => br (a = b) (P 109 L s h) (P 88 L s h)) := rfl
theorem e27_88 : exq sa F N S rt cd27 P Q 88 L st h = (ldR L 0 fun v => P 89 L (v :: st) h) := rfl
theorem e27_89 : exq sa F N S rt cd27 P Q 89 L st h = (tR st fun a s => opt (hO h a 2) fun fs => opt (fs[5]?) fun v => P 92 L (v :: s) h) := rfl
theorem e27_92 : exq sa F N S rt cd27 P Q 92 L st h = (ldI L 3 fun v => P 93 L (.int v :: st) h) := rfl
theorem e27_93 : exq sa F N S rt cd27 P Q 93 L st h = (ald sa st h fun v s => P 94 L (.int v :: s) h) := rfl
theorem e27_94 : exq sa F N S rt cd27 P Q 94 L st h = (P 96 L (.int (Int32.ofInt (9)) :: st) h) := rfl
theorem e27_96 : exq sa F N S rt cd27 P Q 96 L st h = (tI st fun b s => tI s fun a s => br (b ≤ a) (P 109 L s h) (P 99 L s h)) := rfl
theorem e27_99 : exq sa F N S rt cd27 P Q 99 L st h = (ldR L 0 fun v => P 100 L (v :: st) h) := rfl
theorem e27_100 : exq sa F N S rt cd27 P Q 100 L st h = (tR st fun a s => opt (hO h a 2) fun fs => opt (fs[5]?) fun v => P 103 L (v :: s) h) := rfl
theorem e27_103 : exq sa F N S rt cd27 P Q 103 L st h = (ldI L 3 fun v => P 104 L (.int v :: st) h) := rfl
theorem e27_104 : exq sa F N S rt cd27 P Q 104 L st h = (du2 st fun v v2 s => P 105 L (v :: v2 :: v :: v2 :: s) h) := rfl
theorem e27_105 : exq sa F N S rt cd27 P Q 105 L st h = (ald sa st h fun v s => P 106 L (.int v :: s) h) := rfl
theorem e27_106 : exq sa F N S rt cd27 P Q 106 L st h = (P 107 L (.int (Int32.ofInt (1)) :: st) h) := rfl
theorem e27_107 : exq sa F N S rt cd27 P Q 107 L st h = (tI st fun b s => tI s fun a s => P 108 L (.int (a + b) :: s) h) := rfl
theorem e27_108 : exq sa F N S rt cd27 P Q 108 L st h = (tI st fun v s => tI s fun i s => tR s fun a s => opt (hI h a) fun q => ix i q.1 fun k => P 109 L s (hS h a (.inl (0, q.1, .inl (upd q.2 k v))))) := rfl
theorem e27_109 : exq sa F N S rt cd27 P Q 109 L st h = (ldI L 3 fun v => lvS L 3 (.int (v + Int32.ofInt (1))) fun L' => P 112 L' st h) := rfl
theorem e27_112 : exq sa F N S rt cd27 P Q 112 L st h = (P 30 L st h) := rfl
theorem e27_115 : exq sa F N S rt cd27 P Q 115 L st h = (ldR L 0 fun v => P 116 L (v :: st) h) := rfl
theorem e27_116 : exq sa F N S rt cd27 P Q 116 L st h = (du1 st fun v s => P 117 L (v :: v :: s) h) := rfl
theorem e27_117 : exq sa F N S rt cd27 P Q 117 L st h = (tR st fun a s => opt (hO h a 2) fun fs => opt (fs[2]?) fun v => P 120 L (v :: s) h) := rfl
theorem e27_120 : exq sa F N S rt cd27 P Q 120 L st h = (P 121 L (.int (Int32.ofInt (1)) :: st) h) := rfl
theorem e27_121 : exq sa F N S rt cd27 P Q 121 L st h = (tI st fun b s => tI s fun a s => P 122 L (.int (a + b) :: s) h) := rfl
theorem e27_122 : exq sa F N S rt cd27 P Q 122 L st h = (pfd st h 2 2 0 fun s h' => P 125 L s h') := rfl
theorem e27_125 : exq sa F N S rt cd27 P Q 125 L st h = (ldI L 2 fun v => lvS L 2 (.int (v + Int32.ofInt (1))) fun L' => P 128 L' st h) := rfl
theorem e27_128 : exq sa F N S rt cd27 P Q 128 L st h = (P 2 L st h) := rfl
theorem e27_131 : exq sa F N S rt cd27 P Q 131 L st h = (st = [] ∧ rt = none ∧ Q none h) := rfl
theorem e28_0 : exq sa F N S rt cd28 P Q 0 L st h = (ldR L 0 fun v => P 1 L (v :: st) h) := rfl
theorem e28_1 : exq sa F N S rt cd28 P Q 1 L st h = (ldI L 1 fun v => P 2 L (.int v :: st) h) := rfl
theorem e28_2 : exq sa F N S rt cd28 P Q 2 L st h = (ivV F 20 2 2 st h fun r s h' => P 5 L (pu r s) h') := rfl
theorem e28_5 : exq sa F N S rt cd28 P Q 5 L st h = (tI st fun a s => br (a = 0) (P 9 L s h) (P 8 L s h)) := rfl
theorem e28_8 : exq sa F N S rt cd28 P Q 8 L st h = (st = [] ∧ rt = none ∧ Q none h) := rfl
theorem e28_9 : exq sa F N S rt cd28 P Q 9 L st h = (ldR L 0 fun v => P 10 L (v :: st) h) := rfl
theorem e28_10 : exq sa F N S rt cd28 P Q 10 L st h = (tR st fun a s => opt (hO h a 2) fun fs => opt (fs[12]?) fun v => P 13 L (v :: s) h) := rfl
theorem e28_13 : exq sa F N S rt cd28 P Q 13 L st h = (ldI L 1 fun v => P 14 L (.int v :: st) h) := rfl
theorem e28_14 : exq sa F N S rt cd28 P Q 14 L st h = (ald sa st h fun v s => P 15 L (.int v :: s) h) := rfl
theorem e28_15 : exq sa F N S rt cd28 P Q 15 L st h = (P 16 L (.int (Int32.ofInt (1)) :: st) h) := rfl
theorem e28_16 : exq sa F N S rt cd28 P Q 16 L st h = (tI st fun b s => tI s fun a s => br (a = b) (P 19 L s h) (P 44 L s h)) := rfl
theorem e28_19 : exq sa F N S rt cd28 P Q 19 L st h = (ldR L 0 fun v => P 20 L (v :: st) h) := rfl
theorem e28_20 : exq sa F N S rt cd28 P Q 20 L st h = (tR st fun a s => opt (hO h a 2) fun fs => opt (fs[10]?) fun v => P 23 L (v :: s) h) := rfl
theorem e28_23 : exq sa F N S rt cd28 P Q 23 L st h = (ldI L 1 fun v => P 24 L (.int v :: st) h) := rfl
theorem e28_24 : exq sa F N S rt cd28 P Q 24 L st h = (ald sa st h fun v s => P 25 L (.int v :: s) h) := rfl
theorem e28_25 : exq sa F N S rt cd28 P Q 25 L st h = (ldR L 0 fun v => P 26 L (v :: st) h) := rfl
theorem e28_26 : exq sa F N S rt cd28 P Q 26 L st h = (tR st fun a s => opt (hO h a 2) fun fs => opt (fs[0]?) fun v => P 29 L (v :: s) h) := rfl
theorem e28_29 : exq sa F N S rt cd28 P Q 29 L st h = (P 30 L (.int (Int32.ofInt (1)) :: st) h) := rfl
theorem e28_30 : exq sa F N S rt cd28 P Q 30 L st h = (tI st fun b s => tI s fun a s => P 31 L (.int (a - b) :: s) h) := rfl
theorem e28_31 : exq sa F N S rt cd28 P Q 31 L st h = (tI st fun b s => tI s fun a s => br (a < b) (P 44 L s h) (P 34 L s h)) := rfl
theorem e28_34 : exq sa F N S rt cd28 P Q 34 L st h = (ldR L 0 fun v => P 35 L (v :: st) h) := rfl
theorem e28_35 : exq sa F N S rt cd28 P Q 35 L st h = (tR st fun a s => opt (hO h a 2) fun fs => opt (fs[12]?) fun v => P 38 L (v :: s) h) := rfl
theorem e28_38 : exq sa F N S rt cd28 P Q 38 L st h = (ldI L 1 fun v => P 39 L (.int v :: st) h) := rfl
theorem e28_39 : exq sa F N S rt cd28 P Q 39 L st h = (P 40 L (.int (Int32.ofInt (2)) :: st) h) := rfl
theorem e28_40 : exq sa F N S rt cd28 P Q 40 L st h = (tI st fun v s => tI s fun i s => tR s fun a s => opt (hI h a) fun q => ix i q.1 fun k => P 41 L s (hS h a (.inl (0, q.1, .inl (upd q.2 k v))))) := rfl
theorem e28_41 : exq sa F N S rt cd28 P Q 41 L st h = (P 70 L st h) := rfl
theorem e28_44 : exq sa F N S rt cd28 P Q 44 L st h = (ldR L 0 fun v => P 45 L (v :: st) h) := rfl
theorem e28_45 : exq sa F N S rt cd28 P Q 45 L st h = (tR st fun a s => opt (hO h a 2) fun fs => opt (fs[12]?) fun v => P 48 L (v :: s) h) := rfl
theorem e28_48 : exq sa F N S rt cd28 P Q 48 L st h = (ldI L 1 fun v => P 49 L (.int v :: st) h) := rfl
theorem e28_49 : exq sa F N S rt cd28 P Q 49 L st h = (ald sa st h fun v s => P 50 L (.int v :: s) h) := rfl
theorem e28_50 : exq sa F N S rt cd28 P Q 50 L st h = (P 51 L (.int (Int32.ofInt (2)) :: st) h) := rfl
theorem e28_51 : exq sa F N S rt cd28 P Q 51 L st h = (tI st fun b s => tI s fun a s => br (a = b) (P 54 L s h) (P 70 L s h)) := rfl
theorem e28_54 : exq sa F N S rt cd28 P Q 54 L st h = (ldR L 0 fun v => P 55 L (v :: st) h) := rfl
theorem e28_55 : exq sa F N S rt cd28 P Q 55 L st h = (tR st fun a s => opt (hO h a 2) fun fs => opt (fs[10]?) fun v => P 58 L (v :: s) h) := rfl
theorem e28_58 : exq sa F N S rt cd28 P Q 58 L st h = (ldI L 1 fun v => P 59 L (.int v :: st) h) := rfl
theorem e28_59 : exq sa F N S rt cd28 P Q 59 L st h = (ald sa st h fun v s => P 60 L (.int v :: s) h) := rfl
theorem e28_60 : exq sa F N S rt cd28 P Q 60 L st h = (tI st fun a s => br (0 < a) (P 70 L s h) (P 63 L s h)) := rfl
theorem e28_63 : exq sa F N S rt cd28 P Q 63 L st h = (ldR L 0 fun v => P 64 L (v :: st) h) := rfl
theorem e28_64 : exq sa F N S rt cd28 P Q 64 L st h = (tR st fun a s => opt (hO h a 2) fun fs => opt (fs[12]?) fun v => P 67 L (v :: s) h) := rfl
theorem e28_67 : exq sa F N S rt cd28 P Q 67 L st h = (ldI L 1 fun v => P 68 L (.int v :: st) h) := rfl
theorem e28_68 : exq sa F N S rt cd28 P Q 68 L st h = (P 69 L (.int (Int32.ofInt (1)) :: st) h) := rfl
theorem e28_69 : exq sa F N S rt cd28 P Q 69 L st h = (tI st fun v s => tI s fun i s => tR s fun a s => opt (hI h a) fun q => ix i q.1 fun k => P 70 L s (hS h a (.inl (0, q.1, .inl (upd q.2 k v))))) := rfl
theorem e28_70 : exq sa F N S rt cd28 P Q 70 L st h = (ldR L 0 fun v => P 71 L (v :: st) h) := rfl
theorem e28_71 : exq sa F N S rt cd28 P Q 71 L st h = (tR st fun a s => opt (hO h a 2) fun fs => opt (fs[12]?) fun v => P 74 L (v :: s) h) := rfl
theorem e28_74 : exq sa F N S rt cd28 P Q 74 L st h = (ldI L 1 fun v => P 75 L (.int v :: st) h) := rfl
theorem e28_75 : exq sa F N S rt cd28 P Q 75 L st h = (ald sa st h fun v s => P 76 L (.int v :: s) h) := rfl
theorem e28_76 : exq sa F N S rt cd28 P Q 76 L st h = (P 77 L (.int (Int32.ofInt (1)) :: st) h) := rfl
theorem e28_77 : exq sa F N S rt cd28 P Q 77 L st h = (tI st fun b s => tI s fun a s => br (a = b) (P 80 L s h) (P 93 L s h)) := rfl
theorem e28_80 : exq sa F N S rt cd28 P Q 80 L st h = (ldR L 0 fun v => P 81 L (v :: st) h) := rfl
theorem e28_81 : exq sa F N S rt cd28 P Q 81 L st h = (tR st fun a s => opt (hO h a 2) fun fs => opt (fs[10]?) fun v => P 84 L (v :: s) h) := rfl
theorem e28_84 : exq sa F N S rt cd28 P Q 84 L st h = (ldI L 1 fun v => P 85 L (.int v :: st) h) := rfl
theorem e28_85 : exq sa F N S rt cd28 P Q 85 L st h = (du2 st fun v v2 s => P 86 L (v :: v2 :: v :: v2 :: s) h) := rfl
theorem e28_86 : exq sa F N S rt cd28 P Q 86 L st h = (ald sa st h fun v s => P 87 L (.int v :: s) h) := rfl
theorem e28_87 : exq sa F N S rt cd28 P Q 87 L st h = (P 88 L (.int (Int32.ofInt (1)) :: st) h) := rfl
theorem e28_88 : exq sa F N S rt cd28 P Q 88 L st h = (tI st fun b s => tI s fun a s => P 89 L (.int (a + b) :: s) h) := rfl
theorem e28_89 : exq sa F N S rt cd28 P Q 89 L st h = (tI st fun v s => tI s fun i s => tR s fun a s => opt (hI h a) fun q => ix i q.1 fun k => P 90 L s (hS h a (.inl (0, q.1, .inl (upd q.2 k v))))) := rfl
theorem e28_90 : exq sa F N S rt cd28 P Q 90 L st h = (P 113 L st h) := rfl
theorem e28_93 : exq sa F N S rt cd28 P Q 93 L st h = (ldR L 0 fun v => P 94 L (v :: st) h) := rfl
theorem e28_94 : exq sa F N S rt cd28 P Q 94 L st h = (tR st fun a s => opt (hO h a 2) fun fs => opt (fs[12]?) fun v => P 97 L (v :: s) h) := rfl
theorem e28_97 : exq sa F N S rt cd28 P Q 97 L st h = (ldI L 1 fun v => P 98 L (.int v :: st) h) := rfl
theorem e28_98 : exq sa F N S rt cd28 P Q 98 L st h = (ald sa st h fun v s => P 99 L (.int v :: s) h) := rfl
theorem e28_99 : exq sa F N S rt cd28 P Q 99 L st h = (P 100 L (.int (Int32.ofInt (2)) :: st) h) := rfl
theorem e28_100 : exq sa F N S rt cd28 P Q 100 L st h = (tI st fun b s => tI s fun a s => br (a = b) (P 103 L s h) (P 113 L s h)) := rfl
theorem e28_103 : exq sa F N S rt cd28 P Q 103 L st h = (ldR L 0 fun v => P 104 L (v :: st) h) := rfl
theorem e28_104 : exq sa F N S rt cd28 P Q 104 L st h = (tR st fun a s => opt (hO h a 2) fun fs => opt (fs[10]?) fun v => P 107 L (v :: s) h) := rfl
theorem e28_107 : exq sa F N S rt cd28 P Q 107 L st h = (ldI L 1 fun v => P 108 L (.int v :: st) h) := rfl
theorem e28_108 : exq sa F N S rt cd28 P Q 108 L st h = (du2 st fun v v2 s => P 109 L (v :: v2 :: v :: v2 :: s) h) := rfl
theorem e28_109 : exq sa F N S rt cd28 P Q 109 L st h = (ald sa st h fun v s => P 110 L (.int v :: s) h) := rfl
theorem e28_110 : exq sa F N S rt cd28 P Q 110 L st h = (P 111 L (.int (Int32.ofInt (1)) :: st) h) := rfl
theorem e28_111 : exq sa F N S rt cd28 P Q 111 L st h = (tI st fun b s => tI s fun a s => P 112 L (.int (a - b) :: s) h) := rfl
theorem e28_112 : exq sa F N S rt cd28 P Q 112 L st h = (tI st fun v s => tI s fun i s => tR s fun a s => opt (hI h a) fun q => ix i q.1 fun k => P 113 L s (hS h a (.inl (0, q.1, .inl (upd q.2 k v))))) := rfl
theorem e28_113 : exq sa F N S rt cd28 P Q 113 L st h = (st = [] ∧ rt = none ∧ Q none h) := rfl
theorem e29_0 : exq sa F N S rt cd29 P Q 0 L st h = (ldR L 0 fun v => P 1 L (v :: st) h) := rfl
theorem e29_1 : exq sa F N S rt cd29 P Q 1 L st h = (tR st fun a s => opt (hO h a 2) fun fs => opt (fs[5]?) fun v => P 4 L (v :: s) h) := rfl
theorem e29_4 : exq sa F N S rt cd29 P Q 4 L st h = (ldI L 1 fun v => P 5 L (.int v :: st) h) := rfl
theorem e29_5 : exq sa F N S rt cd29 P Q 5 L st h = (ald sa st h fun v s => P 6 L (.int v :: s) h) := rfl
theorem e29_6 : exq sa F N S rt cd29 P Q 6 L st h = (tI st fun a s => br (a ≤ 0) (P 45 L s h) (P 9 L s h)) := rfl
theorem e29_9 : exq sa F N S rt cd29 P Q 9 L st h = (ldR L 0 fun v => P 10 L (v :: st) h) := rfl
theorem e29_10 : exq sa F N S rt cd29 P Q 10 L st h = (tR st fun a s => opt (hO h a 2) fun fs => opt (fs[6]?) fun v => P 13 L (v :: s) h) := rfl
theorem e29_13 : exq sa F N S rt cd29 P Q 13 L st h = (ldI L 1 fun v => P 14 L (.int v :: st) h) := rfl
theorem e29_14 : exq sa F N S rt cd29 P Q 14 L st h = (ldR L 0 fun v => P 15 L (v :: st) h) := rfl
theorem e29_15 : exq sa F N S rt cd29 P Q 15 L st h = (ldI L 1 fun v => P 16 L (.int v :: st) h) := rfl
theorem e29_16 : exq sa F N S rt cd29 P Q 16 L st h = (ldR L 0 fun v => P 17 L (v :: st) h) := rfl
theorem e29_17 : exq sa F N S rt cd29 P Q 17 L st h = (ldI L 1 fun v => P 18 L (.int v :: st) h) := rfl
theorem e29_18 : exq sa F N S rt cd29 P Q 18 L st h = (ivV F 33 2 2 st h fun r s h' => P 21 L (pu r s) h') := rfl
theorem e29_21 : exq sa F N S rt cd29 P Q 21 L st h = (ivV F 31 3 2 st h fun r s h' => P 24 L (pu r s) h') := rfl
theorem e29_24 : exq sa F N S rt cd29 P Q 24 L st h = (tI st fun v s => tI s fun i s => tR s fun a s => opt (hI h a) fun q => ix i q.1 fun k => P 25 L s (hS h a (.inl (0, q.1, .inl (upd q.2 k v))))) := rfl
theorem e29_25 : exq sa F N S rt cd29 P Q 25 L st h = (ldR L 0 fun v => P 26 L (v :: st) h) := rfl
theorem e29_26 : exq sa F N S rt cd29 P Q 26 L st h = (ldI L 1 fun v => P 27 L (.int v :: st) h) := rfl
theorem e29_27 : exq sa F N S rt cd29 P Q 27 L st h = (ivV F 37 2 2 st h fun r s h' => P 30 L (pu r s) h') := rfl
theorem e29_30 : exq sa F N S rt cd29 P Q 30 L st h = (tI st fun v s => lvS L 2 (.int v) fun L' => P 31 L' s h) := rfl
theorem e29_31 : exq sa F N S rt cd29 P Q 31 L st h = (ldI L 2 fun v => P 32 L (.int v :: st) h) := rfl
theorem e29_32 : exq sa F N S rt cd29 P Q 32 L st h = (P 34 L (.int (Int32.ofInt (-1000000)) :: st) h) := rfl
theorem e29_34 : exq sa F N S rt cd29 P Q 34 L st h = (tI st fun b s => tI s fun a s => br (a = b) (P 45 L s h) (P 37 L s h)) := rfl
theorem e29_37 : exq sa F N S rt cd29 P Q 37 L st h = (ldR L 0 fun v => P 38 L (v :: st) h) := rfl
theorem e29_38 : exq sa F N S rt cd29 P Q 38 L st h = (ldI L 1 fun v => P 39 L (.int v :: st) h) := rfl
theorem e29_39 : exq sa F N S rt cd29 P Q 39 L st h = (ldI L 2 fun v => P 40 L (.int v :: st) h) := rfl
theorem e29_40 : exq sa F N S rt cd29 P Q 40 L st h = (ivV F 30 3 2 st h fun r s h' => P 43 L (pu r s) h') := rfl
theorem e29_43 : exq sa F N S rt cd29 P Q 43 L st h = (P 44 L (.int (Int32.ofInt (1)) :: st) h) := rfl
theorem e29_44 : exq sa F N S rt cd29 P Q 44 L st h = (tI st fun v s => s = [] ∧ (rt = some .int ∨ (rt = some .boolean ∧ (v = 0 ∨ v = 1))) ∧ Q (some (.int v)) h) := rfl
theorem e29_45 : exq sa F N S rt cd29 P Q 45 L st h = (ldR L 0 fun v => P 46 L (v :: st) h) := rfl
theorem e29_46 : exq sa F N S rt cd29 P Q 46 L st h = (tR st fun a s => opt (hO h a 2) fun fs => opt (fs[8]?) fun v => P 49 L (v :: s) h) := rfl
theorem e29_49 : exq sa F N S rt cd29 P Q 49 L st h = (ldI L 1 fun v => P 50 L (.int v :: st) h) := rfl
theorem e29_50 : exq sa F N S rt cd29 P Q 50 L st h = (du2 st fun v v2 s => P 51 L (v :: v2 :: v :: v2 :: s) h) := rfl
theorem e29_51 : exq sa F N S rt cd29 P Q 51 L st h = (ald sa st h fun v s => P 52 L (.int v :: s) h) := rfl
theorem e29_52 : exq sa F N S rt cd29 P Q 52 L st h = (P 53 L (.int (Int32.ofInt (1)) :: st) h) := rfl
theorem e29_53 : exq sa F N S rt cd29 P Q 53 L st h = (tI st fun b s => tI s fun a s => P 54 L (.int (a + b) :: s) h) := rfl
theorem e29_54 : exq sa F N S rt cd29 P Q 54 L st h = (tI st fun v s => tI s fun i s => tR s fun a s => opt (hI h a) fun q => ix i q.1 fun k => P 55 L s (hS h a (.inl (0, q.1, .inl (upd q.2 k v))))) := rfl
theorem e29_55 : exq sa F N S rt cd29 P Q 55 L st h = (ldR L 0 fun v => P 56 L (v :: st) h) := rfl
theorem e29_56 : exq sa F N S rt cd29 P Q 56 L st h = (tR st fun a s => opt (hO h a 2) fun fs => opt (fs[8]?) fun v => P 59 L (v :: s) h) := rfl
theorem e29_59 : exq sa F N S rt cd29 P Q 59 L st h = (ldI L 1 fun v => P 60 L (.int v :: st) h) := rfl
theorem e29_60 : exq sa F N S rt cd29 P Q 60 L st h = (ald sa st h fun v s => P 61 L (.int v :: s) h) := rfl
theorem e29_61 : exq sa F N S rt cd29 P Q 61 L st h = (ldR L 0 fun v => P 62 L (v :: st) h) := rfl
theorem e29_62 : exq sa F N S rt cd29 P Q 62 L st h = (tR st fun a s => opt (hO h a 2) fun fs => opt (fs[1]?) fun v => P 65 L (v :: s) h) := rfl
theorem e29_65 : exq sa F N S rt cd29 P Q 65 L st h = (tI st fun b s => tI s fun a s => br (a < b) (P 82 L s h) (P 68 L s h)) := rfl
theorem e29_68 : exq sa F N S rt cd29 P Q 68 L st h = (ldR L 0 fun v => P 69 L (v :: st) h) := rfl
theorem e29_69 : exq sa F N S rt cd29 P Q 69 L st h = (tR st fun a s => opt (hO h a 2) fun fs => opt (fs[7]?) fun v => P 72 L (v :: s) h) := rfl
theorem e29_72 : exq sa F N S rt cd29 P Q 72 L st h = (ldI L 1 fun v => P 73 L (.int v :: st) h) := rfl
theorem e29_73 : exq sa F N S rt cd29 P Q 73 L st h = (P 74 L (.int (Int32.ofInt (2)) :: st) h) := rfl
theorem e29_74 : exq sa F N S rt cd29 P Q 74 L st h = (tI st fun v s => tI s fun i s => tR s fun a s => opt (hI h a) fun q => ix i q.1 fun k => P 75 L s (hS h a (.inl (0, q.1, .inl (upd q.2 k v))))) := rfl
theorem e29_75 : exq sa F N S rt cd29 P Q 75 L st h = (ldR L 0 fun v => P 76 L (v :: st) h) := rfl
theorem e29_76 : exq sa F N S rt cd29 P Q 76 L st h = (tR st fun a s => opt (hO h a 2) fun fs => opt (fs[8]?) fun v => P 79 L (v :: s) h) := rfl
theorem e29_79 : exq sa F N S rt cd29 P Q 79 L st h = (ldI L 1 fun v => P 80 L (.int v :: st) h) := rfl
theorem e29_80 : exq sa F N S rt cd29 P Q 80 L st h = (P 81 L (.int (Int32.ofInt (0)) :: st) h) := rfl
theorem e29_81 : exq sa F N S rt cd29 P Q 81 L st h = (tI st fun v s => tI s fun i s => tR s fun a s => opt (hI h a) fun q => ix i q.1 fun k => P 82 L s (hS h a (.inl (0, q.1, .inl (upd q.2 k v))))) := rfl
theorem e29_82 : exq sa F N S rt cd29 P Q 82 L st h = (P 83 L (.int (Int32.ofInt (0)) :: st) h) := rfl
theorem e29_83 : exq sa F N S rt cd29 P Q 83 L st h = (tI st fun v s => s = [] ∧ (rt = some .int ∨ (rt = some .boolean ∧ (v = 0 ∨ v = 1))) ∧ Q (some (.int v)) h) := rfl
theorem e30_0 : exq sa F N S rt cd30 P Q 0 L st h = (ldR L 0 fun v => P 1 L (v :: st) h) := rfl
theorem e30_1 : exq sa F N S rt cd30 P Q 1 L st h = (du1 st fun v s => P 2 L (v :: v :: s) h) := rfl
theorem e30_2 : exq sa F N S rt cd30 P Q 2 L st h = (tR st fun a s => opt (hO h a 2) fun fs => opt (fs[13]?) fun v => P 5 L (v :: s) h) := rfl
theorem e30_5 : exq sa F N S rt cd30 P Q 5 L st h = (P 6 L (.int (Int32.ofInt (1)) :: st) h) := rfl
theorem e30_6 : exq sa F N S rt cd30 P Q 6 L st h = (ldI L 2 fun v => P 7 L (.int v :: st) h) := rfl
theorem e30_7 : exq sa F N S rt cd30 P Q 7 L st h = (tI st fun b s => tI s fun a s => P 8 L (.int (a <<< (b &&& 31)) :: s) h) := rfl
theorem e30_8 : exq sa F N S rt cd30 P Q 8 L st h = (tI st fun b s => tI s fun a s => P 9 L (.int (a ||| b) :: s) h) := rfl
theorem e30_9 : exq sa F N S rt cd30 P Q 9 L st h = (pfd st h 2 13 0 fun s h' => P 12 L s h') := rfl
theorem e30_12 : exq sa F N S rt cd30 P Q 12 L st h = (ldR L 0 fun v => P 13 L (v :: st) h) := rfl
theorem e30_13 : exq sa F N S rt cd30 P Q 13 L st h = (tR st fun a s => opt (hO h a 2) fun fs => opt (fs[5]?) fun v => P 16 L (v :: s) h) := rfl
theorem e30_16 : exq sa F N S rt cd30 P Q 16 L st h = (ldI L 1 fun v => P 17 L (.int v :: st) h) := rfl
theorem e30_17 : exq sa F N S rt cd30 P Q 17 L st h = (P 18 L (.int (Int32.ofInt (0)) :: st) h) := rfl
theorem e30_18 : exq sa F N S rt cd30 P Q 18 L st h = (ldR L 0 fun v => P 19 L (v :: st) h) := rfl
theorem e30_19 : exq sa F N S rt cd30 P Q 19 L st h = (tR st fun a s => opt (hO h a 2) fun fs => opt (fs[5]?) fun v => P 22 L (v :: s) h) := rfl
theorem e30_22 : exq sa F N S rt cd30 P Q 22 L st h = (ldI L 1 fun v => P 23 L (.int v :: st) h) := rfl
theorem e30_23 : exq sa F N S rt cd30 P Q 23 L st h = (ald sa st h fun v s => P 24 L (.int v :: s) h) := rfl
theorem e30_24 : exq sa F N S rt cd30 P Q 24 L st h = (ldR L 0 fun v => P 25 L (v :: st) h) := rfl
theorem e30_25 : exq sa F N S rt cd30 P Q 25 L st h = (tR st fun a s => opt (hO h a 2) fun fs => opt (fs[11]?) fun v => P 28 L (v :: s) h) := rfl
theorem e30_28 : exq sa F N S rt cd30 P Q 28 L st h = (ldI L 2 fun v => P 29 L (.int v :: st) h) := rfl
theorem e30_29 : exq sa F N S rt cd30 P Q 29 L st h = (ald sa st h fun v s => P 30 L (.int v :: s) h) := rfl
theorem e30_30 : exq sa F N S rt cd30 P Q 30 L st h = (tI st fun b s => tI s fun a s => P 31 L (.int (a - b) :: s) h) := rfl
theorem e30_31 : exq sa F N S rt cd30 P Q 31 L st h = (tI st fun b s => tI s fun a s => s.length ≤ 4 ∧ P 34 L (.int (if a < b then b else a) :: s) h) := rfl
theorem e30_34 : exq sa F N S rt cd30 P Q 34 L st h = (tI st fun v s => tI s fun i s => tR s fun a s => opt (hI h a) fun q => ix i q.1 fun k => P 35 L s (hS h a (.inl (0, q.1, .inl (upd q.2 k v))))) := rfl
theorem e30_35 : exq sa F N S rt cd30 P Q 35 L st h = (ldR L 0 fun v => P 36 L (v :: st) h) := rfl
theorem e30_36 : exq sa F N S rt cd30 P Q 36 L st h = (tR st fun a s => opt (hO h a 2) fun fs => opt (fs[8]?) fun v => P 39 L (v :: s) h) := rfl
theorem e30_39 : exq sa F N S rt cd30 P Q 39 L st h = (ldI L 1 fun v => P 40 L (.int v :: st) h) := rfl
theorem e30_40 : exq sa F N S rt cd30 P Q 40 L st h = (P 41 L (.int (Int32.ofInt (0)) :: st) h) := rfl
theorem e30_41 : exq sa F N S rt cd30 P Q 41 L st h = (tI st fun v s => tI s fun i s => tR s fun a s => opt (hI h a) fun q => ix i q.1 fun k => P 42 L s (hS h a (.inl (0, q.1, .inl (upd q.2 k v))))) := rfl
theorem e30_42 : exq sa F N S rt cd30 P Q 42 L st h = (ldR L 0 fun v => P 43 L (v :: st) h) := rfl
theorem e30_43 : exq sa F N S rt cd30 P Q 43 L st h = (du1 st fun v s => P 44 L (v :: v :: s) h) := rfl
theorem e30_44 : exq sa F N S rt cd30 P Q 44 L st h = (tR st fun a s => opt (hO h a 2) fun fs => opt (fs[14]?) fun v => P 47 L (v :: s) h) := rfl
theorem e30_47 : exq sa F N S rt cd30 P Q 47 L st h = (ldI L 1 fun v => P 48 L (.int v :: st) h) := rfl
theorem e30_48 : exq sa F N S rt cd30 P Q 48 L st h = (P 49 L (.int (Int32.ofInt (2)) :: st) h) := rfl
theorem e30_49 : exq sa F N S rt cd30 P Q 49 L st h = (tI st fun b s => tI s fun a s => ¬ b = 0 ∧ P 50 L (.int (a - a / b * b) :: s) h) := rfl
theorem e30_50 : exq sa F N S rt cd30 P Q 50 L st h = (tI st fun a s => br (a = 0) (P 53 L s h) (P 62 L s h)) := rfl
theorem e30_53 : exq sa F N S rt cd30 P Q 53 L st h = (ldR L 0 fun v => P 54 L (v :: st) h) := rfl
theorem e30_54 : exq sa F N S rt cd30 P Q 54 L st h = (tR st fun a s => opt (hO h a 2) fun fs => opt (fs[11]?) fun v => P 57 L (v :: s) h) := rfl
theorem e30_57 : exq sa F N S rt cd30 P Q 57 L st h = (ldI L 2 fun v => P 58 L (.int v :: st) h) := rfl
theorem e30_58 : exq sa F N S rt cd30 P Q 58 L st h = (ald sa st h fun v s => P 59 L (.int v :: s) h) := rfl
theorem e30_59 : exq sa F N S rt cd30 P Q 59 L st h = (P 69 L st h) := rfl
theorem e30_62 : exq sa F N S rt cd30 P Q 62 L st h = (ldR L 0 fun v => P 63 L (v :: st) h) := rfl
theorem e30_63 : exq sa F N S rt cd30 P Q 63 L st h = (tR st fun a s => opt (hO h a 2) fun fs => opt (fs[11]?) fun v => P 66 L (v :: s) h) := rfl
theorem e30_66 : exq sa F N S rt cd30 P Q 66 L st h = (ldI L 2 fun v => P 67 L (.int v :: st) h) := rfl
theorem e30_67 : exq sa F N S rt cd30 P Q 67 L st h = (ald sa st h fun v s => P 68 L (.int v :: s) h) := rfl
theorem e30_68 : exq sa F N S rt cd30 P Q 68 L st h = (tI st fun a s => P 69 L (.int (-a) :: s) h) := rfl
theorem e30_69 : exq sa F N S rt cd30 P Q 69 L st h = (tI st fun b s => tI s fun a s => P 70 L (.int (a + b) :: s) h) := rfl
theorem e30_70 : exq sa F N S rt cd30 P Q 70 L st h = (pfd st h 2 14 0 fun s h' => P 73 L s h') := rfl
theorem e30_73 : exq sa F N S rt cd30 P Q 73 L st h = (st = [] ∧ rt = none ∧ Q none h) := rfl
theorem e31_0 : exq sa F N S rt cd31 P Q 0 L st h = (ldR L 0 fun v => P 1 L (v :: st) h) := rfl
theorem e31_1 : exq sa F N S rt cd31 P Q 1 L st h = (tR st fun a s => opt (hO h a 2) fun fs => opt (fs[6]?) fun v => P 4 L (v :: s) h) := rfl
theorem e31_4 : exq sa F N S rt cd31 P Q 4 L st h = (ldI L 1 fun v => P 5 L (.int v :: st) h) := rfl
theorem e31_5 : exq sa F N S rt cd31 P Q 5 L st h = (ald sa st h fun v s => P 6 L (.int v :: s) h) := rfl
theorem e31_6 : exq sa F N S rt cd31 P Q 6 L st h = (tI st fun v s => lvS L 3 (.int v) fun L' => P 7 L' s h) := rfl
theorem e31_7 : exq sa F N S rt cd31 P Q 7 L st h = (ldR L 0 fun v => P 8 L (v :: st) h) := rfl
theorem e31_8 : exq sa F N S rt cd31 P Q 8 L st h = (tR st fun a s => opt (hO h a 2) fun fs => opt (fs[4]?) fun v => P 11 L (v :: s) h) := rfl
theorem e31_11 : exq sa F N S rt cd31 P Q 11 L st h = (ldI L 1 fun v => P 12 L (.int v :: st) h) := rfl
theorem e31_12 : exq sa F N S rt cd31 P Q 12 L st h = (ald sa st h fun v s => P 13 L (.int v :: s) h) := rfl
theorem e31_13 : exq sa F N S rt cd31 P Q 13 L st h = (ex1 sa F N S rt P Q 13 L st h (.tableswitch 81 1 5 #[35, 43, 81, 51, 69]) 0 0 0 0) := rfl
theorem e31_48 : exq sa F N S rt cd31 P Q 48 L st h = (ldR L 0 fun v => P 49 L (v :: st) h) := rfl
theorem e31_49 : exq sa F N S rt cd31 P Q 49 L st h = (ldI L 3 fun v => P 50 L (.int v :: st) h) := rfl
theorem e31_50 : exq sa F N S rt cd31 P Q 50 L st h = (ldI L 2 fun v => P 51 L (.int v :: st) h) := rfl
theorem e31_51 : exq sa F N S rt cd31 P Q 51 L st h = (P 52 L (.int (Int32.ofInt (1)) :: st) h) := rfl
theorem e31_52 : exq sa F N S rt cd31 P Q 52 L st h = (ivV F 32 4 2 st h fun r s h' => P 55 L (pu r s) h') := rfl
theorem e31_55 : exq sa F N S rt cd31 P Q 55 L st h = (tI st fun v s => s = [] ∧ (rt = some .int ∨ (rt = some .boolean ∧ (v = 0 ∨ v = 1))) ∧ Q (some (.int v)) h) := rfl
theorem e31_56 : exq sa F N S rt cd31 P Q 56 L st h = (ldR L 0 fun v => P 57 L (v :: st) h) := rfl
theorem e31_57 : exq sa F N S rt cd31 P Q 57 L st h = (ldI L 3 fun v => P 58 L (.int v :: st) h) := rfl
theorem e31_58 : exq sa F N S rt cd31 P Q 58 L st h = (ldI L 2 fun v => P 59 L (.int v :: st) h) := rfl
theorem e31_59 : exq sa F N S rt cd31 P Q 59 L st h = (P 60 L (.int (Int32.ofInt (2)) :: st) h) := rfl
theorem e31_60 : exq sa F N S rt cd31 P Q 60 L st h = (ivV F 32 4 2 st h fun r s h' => P 63 L (pu r s) h') := rfl
theorem e31_63 : exq sa F N S rt cd31 P Q 63 L st h = (tI st fun v s => s = [] ∧ (rt = some .int ∨ (rt = some .boolean ∧ (v = 0 ∨ v = 1))) ∧ Q (some (.int v)) h) := rfl
theorem e31_64 : exq sa F N S rt cd31 P Q 64 L st h = (ldI L 3 fun v => P 65 L (.int v :: st) h) := rfl
theorem e31_65 : exq sa F N S rt cd31 P Q 65 L st h = (ldR L 0 fun v => P 66 L (v :: st) h) := rfl
theorem e31_66 : exq sa F N S rt cd31 P Q 66 L st h = (tR st fun a s => opt (hO h a 2) fun fs => opt (fs[0]?) fun v => P 69 L (v :: s) h) := rfl
theorem e31_69 : exq sa F N S rt cd31 P Q 69 L st h = (P 70 L (.int (Int32.ofInt (1)) :: st) h) := rfl
theorem e31_70 : exq sa F N S rt cd31 P Q 70 L st h = (tI st fun b s => tI s fun a s => P 71 L (.int (a - b) :: s) h) := rfl
theorem e31_71 : exq sa F N S rt cd31 P Q 71 L st h = (tI st fun b s => tI s fun a s => br (b ≤ a) (P 80 L s h) (P 74 L s h)) := rfl
theorem e31_74 : exq sa F N S rt cd31 P Q 74 L st h = (ldI L 3 fun v => P 75 L (.int v :: st) h) := rfl
theorem e31_75 : exq sa F N S rt cd31 P Q 75 L st h = (P 76 L (.int (Int32.ofInt (1)) :: st) h) := rfl
theorem e31_76 : exq sa F N S rt cd31 P Q 76 L st h = (tI st fun b s => tI s fun a s => P 77 L (.int (a + b) :: s) h) := rfl
theorem e31_77 : exq sa F N S rt cd31 P Q 77 L st h = (P 81 L st h) := rfl
theorem e31_80 : exq sa F N S rt cd31 P Q 80 L st h = (P 81 L (.int (Int32.ofInt (0)) :: st) h) := rfl
theorem e31_81 : exq sa F N S rt cd31 P Q 81 L st h = (tI st fun v s => s = [] ∧ (rt = some .int ∨ (rt = some .boolean ∧ (v = 0 ∨ v = 1))) ∧ Q (some (.int v)) h) := rfl
theorem e31_82 : exq sa F N S rt cd31 P Q 82 L st h = (ldI L 3 fun v => P 83 L (.int v :: st) h) := rfl
theorem e31_83 : exq sa F N S rt cd31 P Q 83 L st h = (tI st fun a s => br (a ≤ 0) (P 92 L s h) (P 86 L s h)) := rfl
theorem e31_86 : exq sa F N S rt cd31 P Q 86 L st h = (ldI L 3 fun v => P 87 L (.int v :: st) h) := rfl
theorem e31_87 : exq sa F N S rt cd31 P Q 87 L st h = (P 88 L (.int (Int32.ofInt (1)) :: st) h) := rfl
theorem e31_88 : exq sa F N S rt cd31 P Q 88 L st h = (tI st fun b s => tI s fun a s => P 89 L (.int (a - b) :: s) h) := rfl
theorem e31_89 : exq sa F N S rt cd31 P Q 89 L st h = (P 93 L st h) := rfl
theorem e31_92 : exq sa F N S rt cd31 P Q 92 L st h = (P 93 L (.int (Int32.ofInt (0)) :: st) h) := rfl
theorem e31_93 : exq sa F N S rt cd31 P Q 93 L st h = (tI st fun v s => s = [] ∧ (rt = some .int ∨ (rt = some .boolean ∧ (v = 0 ∨ v = 1))) ∧ Q (some (.int v)) h) := rfl
theorem e31_94 : exq sa F N S rt cd31 P Q 94 L st h = (ldI L 3 fun v => P 95 L (.int v :: st) h) := rfl
theorem e31_95 : exq sa F N S rt cd31 P Q 95 L st h = (tI st fun v s => s = [] ∧ (rt = some .int ∨ (rt = some .boolean ∧ (v = 0 ∨ v = 1))) ∧ Q (some (.int v)) h) := rfl
theorem e32_0 : exq sa F N S rt cd32 P Q 0 L st h = (ldI L 2 fun v => P 1 L (.int v :: st) h) := rfl
theorem e32_1 : exq sa F N S rt cd32 P Q 1 L st h = (P 3 L (.int (Int32.ofInt (-1000000)) :: st) h) := rfl
theorem e32_3 : exq sa F N S rt cd32 P Q 3 L st h = (tI st fun b s => tI s fun a s => br (a = b) (P 6 L s h) (P 8 L s h)) := rfl
theorem e32_6 : exq sa F N S rt cd32 P Q 6 L st h = (ldI L 1 fun v => P 7 L (.int v :: st) h) := rfl
theorem e32_7 : exq sa F N S rt cd32 P Q 7 L st h = (tI st fun v s => s = [] ∧ (rt = some .int ∨ (rt = some .boolean ∧ (v = 0 ∨ v = 1))) ∧ Q (some (.int v)) h) := rfl
theorem e32_8 : exq sa F N S rt cd32 P Q 8 L st h = (ldR L 0 fun v => P 9 L (v :: st) h) := rfl
theorem e32_9 : exq sa F N S rt cd32 P Q 9 L st h = (tR st fun a s => opt (hO h a 2) fun fs => opt (fs[10]?) fun v => P 12 L (v :: s) h) := rfl
theorem e32_12 : exq sa F N S rt cd32 P Q 12 L st h = (ldI L 2 fun v => P 13 L (.int v :: st) h) := rfl
theorem e32_13 : exq sa F N S rt cd32 P Q 13 L st h = (ald sa st h fun v s => P 14 L (.int v :: s) h) := rfl
theorem e32_14 : exq sa F N S rt cd32 P Q 14 L st h = (ldI L 1 fun v => P 15 L (.int v :: st) h) := rfl
theorem e32_15 : exq sa F N S rt cd32 P Q 15 L st h = (tI st fun b s => tI s fun a s => P 16 L (.int (a - b) :: s) h) := rfl
theorem e32_16 : exq sa F N S rt cd32 P Q 16 L st h = (tI st fun v s => lvS L 4 (.int v) fun L' => P 18 L' s h) := rfl
theorem e32_18 : exq sa F N S rt cd32 P Q 18 L st h = (ldI L 1 fun v => P 19 L (.int v :: st) h) := rfl
theorem e32_19 : exq sa F N S rt cd32 P Q 19 L st h = (ldI L 3 fun v => P 20 L (.int v :: st) h) := rfl
theorem e32_20 : exq sa F N S rt cd32 P Q 20 L st h = (tI st fun a s => P 21 L (.int (-a) :: s) h) := rfl
theorem e32_21 : exq sa F N S rt cd32 P Q 21 L st h = (ldI L 3 fun v => P 22 L (.int v :: st) h) := rfl
theorem e32_22 : exq sa F N S rt cd32 P Q 22 L st h = (ldI L 4 fun v => P 24 L (.int v :: st) h) := rfl
theorem e32_24 : exq sa F N S rt cd32 P Q 24 L st h = (tI st fun b s => tI s fun a s => s.length ≤ 4 ∧ P 27 L (.int (if b < a then b else a) :: s) h) := rfl
theorem e32_27 : exq sa F N S rt cd32 P Q 27 L st h = (tI st fun b s => tI s fun a s => s.length ≤ 4 ∧ P 30 L (.int (if a < b then b else a) :: s) h) := rfl
theorem e32_30 : exq sa F N S rt cd32 P Q 30 L st h = (tI st fun b s => tI s fun a s => P 31 L (.int (a + b) :: s) h) := rfl
theorem e32_31 : exq sa F N S rt cd32 P Q 31 L st h = (tI st fun v s => s = [] ∧ (rt = some .int ∨ (rt = some .boolean ∧ (v = 0 ∨ v = 1))) ∧ Q (some (.int v)) h) := rfl
theorem e33_0 : exq sa F N S rt cd33 P Q 0 L st h = (ldR L 0 fun v => P 1 L (v :: st) h) := rfl
theorem e33_1 : exq sa F N S rt cd33 P Q 1 L st h = (tR st fun a s => opt (hO h a 2) fun fs => opt (fs[4]?) fun v => P 4 L (v :: s) h) := rfl
theorem e33_4 : exq sa F N S rt cd33 P Q 4 L st h = (ldI L 1 fun v => P 5 L (.int v :: st) h) := rfl
theorem e33_5 : exq sa F N S rt cd33 P Q 5 L st h = (ald sa st h fun v s => P 6 L (.int v :: s) h) := rfl
theorem e33_6 : exq sa F N S rt cd33 P Q 6 L st h = (ex1 sa F N S rt P Q 6 L st h (.lookupswitch 48 #[(1, 26), (2, 37)]) 0 0 0 0) := rfl
theorem e33_32 : exq sa F N S rt cd33 P Q 32 L st h = (ldR L 0 fun v => P 33 L (v :: st) h) := rfl
theorem e33_33 : exq sa F N S rt cd33 P Q 33 L st h = (ldR L 0 fun v => P 34 L (v :: st) h) := rfl
theorem e33_34 : exq sa F N S rt cd33 P Q 34 L st h = (tR st fun a s => opt (hO h a 2) fun fs => opt (fs[6]?) fun v => P 37 L (v :: s) h) := rfl
theorem e33_37 : exq sa F N S rt cd33 P Q 37 L st h = (ldI L 1 fun v => P 38 L (.int v :: st) h) := rfl
theorem e33_38 : exq sa F N S rt cd33 P Q 38 L st h = (ald sa st h fun v s => P 39 L (.int v :: s) h) := rfl
theorem e33_39 : exq sa F N S rt cd33 P Q 39 L st h = (ivV F 35 2 2 st h fun r s h' => P 42 L (pu r s) h') := rfl
theorem e33_42 : exq sa F N S rt cd33 P Q 42 L st h = (tI st fun v s => s = [] ∧ (rt = some .int ∨ (rt = some .boolean ∧ (v = 0 ∨ v = 1))) ∧ Q (some (.int v)) h) := rfl
theorem e33_43 : exq sa F N S rt cd33 P Q 43 L st h = (ldR L 0 fun v => P 44 L (v :: st) h) := rfl
theorem e33_44 : exq sa F N S rt cd33 P Q 44 L st h = (ldR L 0 fun v => P 45 L (v :: st) h) := rfl
theorem e33_45 : exq sa F N S rt cd33 P Q 45 L st h = (tR st fun a s => opt (hO h a 2) fun fs => opt (fs[6]?) fun v => P 48 L (v :: s) h) := rfl
theorem e33_48 : exq sa F N S rt cd33 P Q 48 L st h = (ldI L 1 fun v => P 49 L (.int v :: st) h) := rfl
theorem e33_49 : exq sa F N S rt cd33 P Q 49 L st h = (ald sa st h fun v s => P 50 L (.int v :: s) h) := rfl
theorem e33_50 : exq sa F N S rt cd33 P Q 50 L st h = (ivV F 36 2 2 st h fun r s h' => P 53 L (pu r s) h') := rfl
theorem e33_53 : exq sa F N S rt cd33 P Q 53 L st h = (tI st fun v s => s = [] ∧ (rt = some .int ∨ (rt = some .boolean ∧ (v = 0 ∨ v = 1))) ∧ Q (some (.int v)) h) := rfl
theorem e33_54 : exq sa F N S rt cd33 P Q 54 L st h = (P 56 L (.int (Int32.ofInt (-1000000)) :: st) h) := rfl
theorem e33_56 : exq sa F N S rt cd33 P Q 56 L st h = (tI st fun v s => s = [] ∧ (rt = some .int ∨ (rt = some .boolean ∧ (v = 0 ∨ v = 1))) ∧ Q (some (.int v)) h) := rfl
theorem e34_0 : exq sa F N S rt cd34 P Q 0 L st h = (ldR L 0 fun v => P 1 L (v :: st) h) := rfl
theorem e34_1 : exq sa F N S rt cd34 P Q 1 L st h = (tR st fun a s => opt (hO h a 2) fun fs => opt (fs[10]?) fun v => P 4 L (v :: s) h) := rfl
theorem e34_4 : exq sa F N S rt cd34 P Q 4 L st h = (ldI L 1 fun v => P 5 L (.int v :: st) h) := rfl
theorem e34_5 : exq sa F N S rt cd34 P Q 5 L st h = (ald sa st h fun v s => P 6 L (.int v :: s) h) := rfl
theorem e34_6 : exq sa F N S rt cd34 P Q 6 L st h = (ldI L 2 fun v => P 7 L (.int v :: st) h) := rfl
theorem e34_7 : exq sa F N S rt cd34 P Q 7 L st h = (tI st fun b s => tI s fun a s => P 8 L (.int (a - b) :: s) h) := rfl
theorem e34_8 : exq sa F N S rt cd34 P Q 8 L st h = (tI st fun a s => s.length ≤ 4 ∧ P 11 L (.int (if 0 ≤ a then a else 0 - a) :: s) h) := rfl
theorem e34_11 : exq sa F N S rt cd34 P Q 11 L st h = (tI st fun v s => s = [] ∧ (rt = some .int ∨ (rt = some .boolean ∧ (v = 0 ∨ v = 1))) ∧ Q (some (.int v)) h) := rfl
theorem e35_0 : exq sa F N S rt cd35 P Q 0 L st h = (P 2 L (.int (Int32.ofInt (-1000000)) :: st) h) := rfl
theorem e35_2 : exq sa F N S rt cd35 P Q 2 L st h = (tI st fun v s => lvS L 2 (.int v) fun L' => P 3 L' s h) := rfl
theorem e35_3 : exq sa F N S rt cd35 P Q 3 L st h = (P 4 L (.int (Int32.ofInt (0)) :: st) h) := rfl
theorem e35_4 : exq sa F N S rt cd35 P Q 4 L st h = (tI st fun v s => lvS L 3 (.int v) fun L' => P 5 L' s h) := rfl
theorem e35_5 : exq sa F N S rt cd35 P Q 5 L st h = (P 6 L (.int (Int32.ofInt (0)) :: st) h) := rfl
theorem e35_6 : exq sa F N S rt cd35 P Q 6 L st h = (tI st fun v s => lvS L 4 (.int v) fun L' => P 8 L' s h) := rfl
theorem e35_8 : exq sa F N S rt cd35 P Q 8 L st h = (ldI L 4 fun v => P 10 L (.int v :: st) h) := rfl
theorem e35_10 : exq sa F N S rt cd35 P Q 10 L st h = (ldR L 0 fun v => P 11 L (v :: st) h) := rfl
theorem e35_11 : exq sa F N S rt cd35 P Q 11 L st h = (tR st fun a s => opt (hO h a 2) fun fs => opt (fs[9]?) fun v => P 14 L (v :: s) h) := rfl
theorem e35_14 : exq sa F N S rt cd35 P Q 14 L st h = (tI st fun b s => tI s fun a s => br (b ≤ a) (P 64 L s h) (P 17 L s h)) := rfl
theorem e35_17 : exq sa F N S rt cd35 P Q 17 L st h = (ldR L 0 fun v => P 18 L (v :: st) h) := rfl
theorem e35_18 : exq sa F N S rt cd35 P Q 18 L st h = (tR st fun a s => opt (hO h a 2) fun fs => opt (fs[10]?) fun v => P 21 L (v :: s) h) := rfl
theorem e35_21 : exq sa F N S rt cd35 P Q 21 L st h = (ldI L 4 fun v => P 23 L (.int v :: st) h) := rfl
theorem e35_23 : exq sa F N S rt cd35 P Q 23 L st h = (ald sa st h fun v s => P 24 L (.int v :: s) h) := rfl
theorem e35_24 : exq sa F N S rt cd35 P Q 24 L st h = (ldI L 1 fun v => P 25 L (.int v :: st) h) := rfl
theorem e35_25 : exq sa F N S rt cd35 P Q 25 L st h = (tI st fun b s => tI s fun a s => P 26 L (.int (a - b) :: s) h) := rfl
theorem e35_26 : exq sa F N S rt cd35 P Q 26 L st h = (tI st fun a s => s.length ≤ 4 ∧ P 29 L (.int (if 0 ≤ a then a else 0 - a) :: s) h) := rfl
theorem e35_29 : exq sa F N S rt cd35 P Q 29 L st h = (tI st fun v s => lvS L 5 (.int v) fun L' => P 31 L' s h) := rfl
theorem e35_31 : exq sa F N S rt cd35 P Q 31 L st h = (ldR L 0 fun v => P 32 L (v :: st) h) := rfl
theorem e35_32 : exq sa F N S rt cd35 P Q 32 L st h = (ldI L 4 fun v => P 34 L (.int v :: st) h) := rfl
theorem e35_34 : exq sa F N S rt cd35 P Q 34 L st h = (ivV F 20 2 2 st h fun r s h' => P 37 L (pu r s) h') := rfl
theorem e35_37 : exq sa F N S rt cd35 P Q 37 L st h = (tI st fun a s => br (a = 0) (P 40 L s h) (P 58 L s h)) := rfl
theorem e35_40 : exq sa F N S rt cd35 P Q 40 L st h = (ldI L 2 fun v => P 41 L (.int v :: st) h) := rfl
theorem e35_41 : exq sa F N S rt cd35 P Q 41 L st h = (P 43 L (.int (Int32.ofInt (-1000000)) :: st) h) := rfl
theorem e35_43 : exq sa F N S rt cd35 P Q 43 L st h = (tI st fun b s => tI s fun a s => br (a = b) (P 52 L s h) (P 46 L s h)) := rfl
theorem e35_46 : exq sa F N S rt cd35 P Q 46 L st h = (ldI L 5 fun v => P 48 L (.int v :: st) h) := rfl
theorem e35_48 : exq sa F N S rt cd35 P Q 48 L st h = (ldI L 3 fun v => P 49 L (.int v :: st) h) := rfl
theorem e35_49 : exq sa F N S rt cd35 P Q 49 L st h = (tI st fun b s => tI s fun a s => br (b ≤ a) (P 58 L s h) (P 52 L s h)) := rfl
theorem e35_52 : exq sa F N S rt cd35 P Q 52 L st h = (ldI L 4 fun v => P 54 L (.int v :: st) h) := rfl
theorem e35_54 : exq sa F N S rt cd35 P Q 54 L st h = (tI st fun v s => lvS L 2 (.int v) fun L' => P 55 L' s h) := rfl
theorem e35_55 : exq sa F N S rt cd35 P Q 55 L st h = (ldI L 5 fun v => P 57 L (.int v :: st) h) := rfl
theorem e35_57 : exq sa F N S rt cd35 P Q 57 L st h = (tI st fun v s => lvS L 3 (.int v) fun L' => P 58 L' s h) := rfl
theorem e35_58 : exq sa F N S rt cd35 P Q 58 L st h = (ldI L 4 fun v => lvS L 4 (.int (v + Int32.ofInt (1))) fun L' => P 61 L' st h) := rfl
theorem e35_61 : exq sa F N S rt cd35 P Q 61 L st h = (P 8 L st h) := rfl
theorem e35_64 : exq sa F N S rt cd35 P Q 64 L st h = (ldI L 2 fun v => P 65 L (.int v :: st) h) := rfl
theorem e35_65 : exq sa F N S rt cd35 P Q 65 L st h = (tI st fun v s => s = [] ∧ (rt = some .int ∨ (rt = some .boolean ∧ (v = 0 ∨ v = 1))) ∧ Q (some (.int v)) h) := rfl
theorem e36_0 : exq sa F N S rt cd36 P Q 0 L st h = (P 2 L (.int (Int32.ofInt (-1000000)) :: st) h) := rfl
theorem e36_2 : exq sa F N S rt cd36 P Q 2 L st h = (tI st fun v s => lvS L 2 (.int v) fun L' => P 3 L' s h) := rfl
theorem e36_3 : exq sa F N S rt cd36 P Q 3 L st h = (P 4 L (.int (Int32.ofInt (0)) :: st) h) := rfl
theorem e36_4 : exq sa F N S rt cd36 P Q 4 L st h = (tI st fun v s => lvS L 3 (.int v) fun L' => P 5 L' s h) := rfl
theorem e36_5 : exq sa F N S rt cd36 P Q 5 L st h = (P 6 L (.int (Int32.ofInt (0)) :: st) h) := rfl
theorem e36_6 : exq sa F N S rt cd36 P Q 6 L st h = (tI st fun v s => lvS L 4 (.int v) fun L' => P 8 L' s h) := rfl
theorem e36_8 : exq sa F N S rt cd36 P Q 8 L st h = (P 9 L (.int (Int32.ofInt (0)) :: st) h) := rfl
theorem e36_9 : exq sa F N S rt cd36 P Q 9 L st h = (tI st fun v s => lvS L 5 (.int v) fun L' => P 11 L' s h) := rfl
theorem e36_11 : exq sa F N S rt cd36 P Q 11 L st h = (ldI L 5 fun v => P 13 L (.int v :: st) h) := rfl
theorem e36_13 : exq sa F N S rt cd36 P Q 13 L st h = (ldR L 0 fun v => P 14 L (v :: st) h) := rfl
theorem e36_14 : exq sa F N S rt cd36 P Q 14 L st h = (tR st fun a s => opt (hO h a 2) fun fs => opt (fs[9]?) fun v => P 17 L (v :: s) h) := rfl
theorem e36_17 : exq sa F N S rt cd36 P Q 17 L st h = (tI st fun b s => tI s fun a s => br (b ≤ a) (P 94 L s h) (P 20 L s h)) := rfl
theorem e36_20 : exq sa F N S rt cd36 P Q 20 L st h = (ldR L 0 fun v => P 21 L (v :: st) h) := rfl
theorem e36_21 : exq sa F N S rt cd36 P Q 21 L st h = (tR st fun a s => opt (hO h a 2) fun fs => opt (fs[10]?) fun v => P 24 L (v :: s) h) := rfl
theorem e36_24 : exq sa F N S rt cd36 P Q 24 L st h = (ldI L 5 fun v => P 26 L (.int v :: st) h) := rfl
theorem e36_26 : exq sa F N S rt cd36 P Q 26 L st h = (ald sa st h fun v s => P 27 L (.int v :: s) h) := rfl
theorem e36_27 : exq sa F N S rt cd36 P Q 27 L st h = (ldI L 1 fun v => P 28 L (.int v :: st) h) := rfl
theorem e36_28 : exq sa F N S rt cd36 P Q 28 L st h = (tI st fun b s => tI s fun a s => P 29 L (.int (a - b) :: s) h) := rfl
theorem e36_29 : exq sa F N S rt cd36 P Q 29 L st h = (tI st fun a s => s.length ≤ 4 ∧ P 32 L (.int (if 0 ≤ a then a else 0 - a) :: s) h) := rfl
theorem e36_32 : exq sa F N S rt cd36 P Q 32 L st h = (tI st fun v s => lvS L 6 (.int v) fun L' => P 34 L' s h) := rfl
theorem e36_34 : exq sa F N S rt cd36 P Q 34 L st h = (ldR L 0 fun v => P 35 L (v :: st) h) := rfl
theorem e36_35 : exq sa F N S rt cd36 P Q 35 L st h = (ldI L 5 fun v => P 37 L (.int v :: st) h) := rfl
theorem e36_37 : exq sa F N S rt cd36 P Q 37 L st h = (ivV F 20 2 2 st h fun r s h' => P 40 L (pu r s) h') := rfl
theorem e36_40 : exq sa F N S rt cd36 P Q 40 L st h = (tI st fun a s => br (a = 0) (P 43 L s h) (P 88 L s h)) := rfl
theorem e36_43 : exq sa F N S rt cd36 P Q 43 L st h = (ldR L 0 fun v => P 44 L (v :: st) h) := rfl
theorem e36_44 : exq sa F N S rt cd36 P Q 44 L st h = (tR st fun a s => opt (hO h a 2) fun fs => opt (fs[11]?) fun v => P 47 L (v :: s) h) := rfl
theorem e36_47 : exq sa F N S rt cd36 P Q 47 L st h = (ldI L 5 fun v => P 49 L (.int v :: st) h) := rfl
theorem e36_49 : exq sa F N S rt cd36 P Q 49 L st h = (ald sa st h fun v s => P 50 L (.int v :: s) h) := rfl
theorem e36_50 : exq sa F N S rt cd36 P Q 50 L st h = (ldI L 4 fun v => P 52 L (.int v :: st) h) := rfl
theorem e36_52 : exq sa F N S rt cd36 P Q 52 L st h = (tI st fun b s => tI s fun a s => br (b < a) (P 73 L s h) (P 55 L s h)) := rfl
theorem e36_55 : exq sa F N S rt cd36 P Q 55 L st h = (ldR L 0 fun v => P 56 L (v :: st) h) := rfl
theorem e36_56 : exq sa F N S rt cd36 P Q 56 L st h = (tR st fun a s => opt (hO h a 2) fun fs => opt (fs[11]?) fun v => P 59 L (v :: s) h) := rfl
theorem e36_59 : exq sa F N S rt cd36 P Q 59 L st h = (ldI L 5 fun v => P 61 L (.int v :: st) h) := rfl
theorem e36_61 : exq sa F N S rt cd36 P Q 61 L st h = (ald sa st h fun v s => P 62 L (.int v :: s) h) := rfl
theorem e36_62 : exq sa F N S rt cd36 P Q 62 L st h = (ldI L 4 fun v => P 64 L (.int v :: st) h) := rfl
theorem e36_64 : exq sa F N S rt cd36 P Q 64 L st h = (tI st fun b s => tI s fun a s => br (a = b) (P 67 L s h) (P 88 L s h)) := rfl
theorem e36_67 : exq sa F N S rt cd36 P Q 67 L st h = (ldI L 6 fun v => P 69 L (.int v :: st) h) := rfl
theorem e36_69 : exq sa F N S rt cd36 P Q 69 L st h = (ldI L 3 fun v => P 70 L (.int v :: st) h) := rfl
theorem e36_70 : exq sa F N S rt cd36 P Q 70 L st h = (tI st fun b s => tI s fun a s => br (b ≤ a) (P 88 L s h) (P 73 L s h)) := rfl
theorem e36_73 : exq sa F N S rt cd36 P Q 73 L st h = (ldI L 5 fun v => P 75 L (.int v :: st) h) := rfl
theorem e36_75 : exq sa F N S rt cd36 P Q 75 L st h = (tI st fun v s => lvS L 2 (.int v) fun L' => P 76 L' s h) := rfl
theorem e36_76 : exq sa F N S rt cd36 P Q 76 L st h = (ldI L 6 fun v => P 78 L (.int v :: st) h) := rfl
theorem e36_78 : exq sa F N S rt cd36 P Q 78 L st h = (tI st fun v s => lvS L 3 (.int v) fun L' => P 79 L' s h) := rfl
theorem e36_79 : exq sa F N S rt cd36 P Q 79 L st h = (ldR L 0 fun v => P 80 L (v :: st) h) := rfl
theorem e36_80 : exq sa F N S rt cd36 P Q 80 L st h = (tR st fun a s => opt (hO h a 2) fun fs => opt (fs[11]?) fun v => P 83 L (v :: s) h) := rfl
theorem e36_83 : exq sa F N S rt cd36 P Q 83 L st h = (ldI L 5 fun v => P 85 L (.int v :: st) h) := rfl
theorem e36_85 : exq sa F N S rt cd36 P Q 85 L st h = (ald sa st h fun v s => P 86 L (.int v :: s) h) := rfl
theorem e36_86 : exq sa F N S rt cd36 P Q 86 L st h = (tI st fun v s => lvS L 4 (.int v) fun L' => P 88 L' s h) := rfl
theorem e36_88 : exq sa F N S rt cd36 P Q 88 L st h = (ldI L 5 fun v => lvS L 5 (.int (v + Int32.ofInt (1))) fun L' => P 91 L' st h) := rfl
theorem e36_91 : exq sa F N S rt cd36 P Q 91 L st h = (P 11 L st h) := rfl
theorem e36_94 : exq sa F N S rt cd36 P Q 94 L st h = (ldI L 2 fun v => P 95 L (.int v :: st) h) := rfl
theorem e36_95 : exq sa F N S rt cd36 P Q 95 L st h = (tI st fun v s => s = [] ∧ (rt = some .int ∨ (rt = some .boolean ∧ (v = 0 ∨ v = 1))) ∧ Q (some (.int v)) h) := rfl
theorem e37_0 : exq sa F N S rt cd37 P Q 0 L st h = (P 2 L (.int (Int32.ofInt (-1000000)) :: st) h) := rfl
theorem e37_2 : exq sa F N S rt cd37 P Q 2 L st h = (tI st fun v s => lvS L 2 (.int v) fun L' => P 3 L' s h) := rfl
theorem e37_3 : exq sa F N S rt cd37 P Q 3 L st h = (ldR L 0 fun v => P 4 L (v :: st) h) := rfl
theorem e37_4 : exq sa F N S rt cd37 P Q 4 L st h = (ldI L 1 fun v => P 5 L (.int v :: st) h) := rfl
theorem e37_5 : exq sa F N S rt cd37 P Q 5 L st h = (ivV F 38 2 2 st h fun r s h' => P 8 L (pu r s) h') := rfl
theorem e37_8 : exq sa F N S rt cd37 P Q 8 L st h = (tI st fun v s => lvS L 3 (.int v) fun L' => P 9 L' s h) := rfl
theorem e37_9 : exq sa F N S rt cd37 P Q 9 L st h = (P 10 L (.int (Int32.ofInt (0)) :: st) h) := rfl
theorem e37_10 : exq sa F N S rt cd37 P Q 10 L st h = (tI st fun v s => lvS L 4 (.int v) fun L' => P 12 L' s h) := rfl
theorem e37_12 : exq sa F N S rt cd37 P Q 12 L st h = (ldI L 4 fun v => P 14 L (.int v :: st) h) := rfl
theorem e37_14 : exq sa F N S rt cd37 P Q 14 L st h = (ldR L 0 fun v => P 15 L (v :: st) h) := rfl
theorem e37_15 : exq sa F N S rt cd37 P Q 15 L st h = (tR st fun a s => opt (hO h a 2) fun fs => opt (fs[9]?) fun v => P 18 L (v :: s) h) := rfl
theorem e37_18 : exq sa F N S rt cd37 P Q 18 L st h = (tI st fun b s => tI s fun a s => br (b ≤ a) (P 88 L s h) (P 21 L s h)) := rfl
theorem e37_21 : exq sa F N S rt cd37 P Q 21 L st h = (ldR L 0 fun v => P 22 L (v :: st) h) := rfl
theorem e37_22 : exq sa F N S rt cd37 P Q 22 L st h = (ldI L 4 fun v => P 24 L (.int v :: st) h) := rfl
theorem e37_24 : exq sa F N S rt cd37 P Q 24 L st h = (ivV F 20 2 2 st h fun r s h' => P 27 L (pu r s) h') := rfl
theorem e37_27 : exq sa F N S rt cd37 P Q 27 L st h = (tI st fun a s => br (a = 0) (P 30 L s h) (P 82 L s h)) := rfl
theorem e37_30 : exq sa F N S rt cd37 P Q 30 L st h = (ldR L 0 fun v => P 31 L (v :: st) h) := rfl
theorem e37_31 : exq sa F N S rt cd37 P Q 31 L st h = (tR st fun a s => opt (hO h a 2) fun fs => opt (fs[10]?) fun v => P 34 L (v :: s) h) := rfl
theorem e37_34 : exq sa F N S rt cd37 P Q 34 L st h = (ldI L 4 fun v => P 36 L (.int v :: st) h) := rfl
theorem e37_36 : exq sa F N S rt cd37 P Q 36 L st h = (ald sa st h fun v s => P 37 L (.int v :: s) h) := rfl
theorem e37_37 : exq sa F N S rt cd37 P Q 37 L st h = (ldR L 0 fun v => P 38 L (v :: st) h) := rfl
theorem e37_38 : exq sa F N S rt cd37 P Q 38 L st h = (tR st fun a s => opt (hO h a 2) fun fs => opt (fs[6]?) fun v => P 41 L (v :: s) h) := rfl
theorem e37_41 : exq sa F N S rt cd37 P Q 41 L st h = (ldI L 1 fun v => P 42 L (.int v :: st) h) := rfl
theorem e37_42 : exq sa F N S rt cd37 P Q 42 L st h = (ald sa st h fun v s => P 43 L (.int v :: s) h) := rfl
theorem e37_43 : exq sa F N S rt cd37 P Q 43 L st h = (tI st fun b s => tI s fun a s => br (a = b) (P 46 L s h) (P 82 L s h)) := rfl
theorem e37_46 : exq sa F N S rt cd37 P Q 46 L st h = (ldR L 0 fun v => P 47 L (v :: st) h) := rfl
theorem e37_47 : exq sa F N S rt cd37 P Q 47 L st h = (tR st fun a s => opt (hO h a 2) fun fs => opt (fs[11]?) fun v => P 50 L (v :: s) h) := rfl
theorem e37_50 : exq sa F N S rt cd37 P Q 50 L st h = (ldI L 4 fun v => P 52 L (.int v :: st) h) := rfl
theorem e37_52 : exq sa F N S rt cd37 P Q 52 L st h = (ald sa st h fun v s => P 53 L (.int v :: s) h) := rfl
theorem e37_53 : exq sa F N S rt cd37 P Q 53 L st h = (ldI L 3 fun v => P 54 L (.int v :: st) h) := rfl
theorem e37_54 : exq sa F N S rt cd37 P Q 54 L st h = (tI st fun b s => tI s fun a s => br (b < a) (P 82 L s h) (P 57 L s h)) := rfl
theorem e37_57 : exq sa F N S rt cd37 P Q 57 L st h = (ldI L 2 fun v => P 58 L (.int v :: st) h) := rfl
theorem e37_58 : exq sa F N S rt cd37 P Q 58 L st h = (P 60 L (.int (Int32.ofInt (-1000000)) :: st) h) := rfl
theorem e37_60 : exq sa F N S rt cd37 P Q 60 L st h = (tI st fun b s => tI s fun a s => br (a = b) (P 79 L s h) (P 63 L s h)) := rfl
theorem e37_63 : exq sa F N S rt cd37 P Q 63 L st h = (ldR L 0 fun v => P 64 L (v :: st) h) := rfl
theorem e37_64 : exq sa F N S rt cd37 P Q 64 L st h = (tR st fun a s => opt (hO h a 2) fun fs => opt (fs[11]?) fun v => P 67 L (v :: s) h) := rfl
theorem e37_67 : exq sa F N S rt cd37 P Q 67 L st h = (ldI L 4 fun v => P 69 L (.int v :: st) h) := rfl
theorem e37_69 : exq sa F N S rt cd37 P Q 69 L st h = (ald sa st h fun v s => P 70 L (.int v :: s) h) := rfl
theorem e37_70 : exq sa F N S rt cd37 P Q 70 L st h = (ldR L 0 fun v => P 71 L (v :: st) h) := rfl
theorem e37_71 : exq sa F N S rt cd37 P Q 71 L st h = (tR st fun a s => opt (hO h a 2) fun fs => opt (fs[11]?) fun v => P 74 L (v :: s) h) := rfl
theorem e37_74 : exq sa F N S rt cd37 P Q 74 L st h = (ldI L 2 fun v => P 75 L (.int v :: st) h) := rfl
theorem e37_75 : exq sa F N S rt cd37 P Q 75 L st h = (ald sa st h fun v s => P 76 L (.int v :: s) h) := rfl
theorem e37_76 : exq sa F N S rt cd37 P Q 76 L st h = (tI st fun b s => tI s fun a s => br (a ≤ b) (P 82 L s h) (P 79 L s h)) := rfl
theorem e37_79 : exq sa F N S rt cd37 P Q 79 L st h = (ldI L 4 fun v => P 81 L (.int v :: st) h) := rfl
theorem e37_81 : exq sa F N S rt cd37 P Q 81 L st h = (tI st fun v s => lvS L 2 (.int v) fun L' => P 82 L' s h) := rfl
theorem e37_82 : exq sa F N S rt cd37 P Q 82 L st h = (ldI L 4 fun v => lvS L 4 (.int (v + Int32.ofInt (1))) fun L' => P 85 L' st h) := rfl
theorem e37_85 : exq sa F N S rt cd37 P Q 85 L st h = (P 12 L st h) := rfl
theorem e37_88 : exq sa F N S rt cd37 P Q 88 L st h = (ldI L 2 fun v => P 89 L (.int v :: st) h) := rfl
theorem e37_89 : exq sa F N S rt cd37 P Q 89 L st h = (tI st fun v s => s = [] ∧ (rt = some .int ∨ (rt = some .boolean ∧ (v = 0 ∨ v = 1))) ∧ Q (some (.int v)) h) := rfl
theorem e38_0 : exq sa F N S rt cd38 P Q 0 L st h = (ldR L 0 fun v => P 1 L (v :: st) h) := rfl
theorem e38_1 : exq sa F N S rt cd38 P Q 1 L st h = (tR st fun a s => opt (hO h a 2) fun fs => opt (fs[4]?) fun v => P 4 L (v :: s) h) := rfl
theorem e38_4 : exq sa F N S rt cd38 P Q 4 L st h = (ldI L 1 fun v => P 5 L (.int v :: st) h) := rfl
theorem e38_5 : exq sa F N S rt cd38 P Q 5 L st h = (ald sa st h fun v s => P 6 L (.int v :: s) h) := rfl
theorem e38_6 : exq sa F N S rt cd38 P Q 6 L st h = (ex1 sa F N S rt P Q 6 L st h (.tableswitch 42 2 5 #[30, 42, 33, 33]) 0 0 0 0) := rfl
theorem e38_36 : exq sa F N S rt cd38 P Q 36 L st h = (P 38 L (.int (Int32.ofInt (9)) :: st) h) := rfl
theorem e38_38 : exq sa F N S rt cd38 P Q 38 L st h = (tI st fun v s => s = [] ∧ (rt = some .int ∨ (rt = some .boolean ∧ (v = 0 ∨ v = 1))) ∧ Q (some (.int v)) h) := rfl
theorem e38_39 : exq sa F N S rt cd38 P Q 39 L st h = (ldR L 0 fun v => P 40 L (v :: st) h) := rfl
theorem e38_40 : exq sa F N S rt cd38 P Q 40 L st h = (tR st fun a s => opt (hO h a 2) fun fs => opt (fs[5]?) fun v => P 43 L (v :: s) h) := rfl
theorem e38_43 : exq sa F N S rt cd38 P Q 43 L st h = (ldI L 1 fun v => P 44 L (.int v :: st) h) := rfl
theorem e38_44 : exq sa F N S rt cd38 P Q 44 L st h = (ald sa st h fun v s => P 45 L (.int v :: s) h) := rfl
theorem e38_45 : exq sa F N S rt cd38 P Q 45 L st h = (P 46 L (.int (Int32.ofInt (1)) :: st) h) := rfl
theorem e38_46 : exq sa F N S rt cd38 P Q 46 L st h = (tI st fun b s => tI s fun a s => P 47 L (.int (a - b) :: s) h) := rfl
theorem e38_47 : exq sa F N S rt cd38 P Q 47 L st h = (tI st fun v s => s = [] ∧ (rt = some .int ∨ (rt = some .boolean ∧ (v = 0 ∨ v = 1))) ∧ Q (some (.int v)) h) := rfl
theorem e38_48 : exq sa F N S rt cd38 P Q 48 L st h = (ldR L 0 fun v => P 49 L (v :: st) h) := rfl
theorem e38_49 : exq sa F N S rt cd38 P Q 49 L st h = (tR st fun a s => opt (hO h a 2) fun fs => opt (fs[5]?) fun v => P 52 L (v :: s) h) := rfl
theorem e38_52 : exq sa F N S rt cd38 P Q 52 L st h = (ldI L 1 fun v => P 53 L (.int v :: st) h) := rfl
theorem e38_53 : exq sa F N S rt cd38 P Q 53 L st h = (ald sa st h fun v s => P 54 L (.int v :: s) h) := rfl
theorem e38_54 : exq sa F N S rt cd38 P Q 54 L st h = (tI st fun v s => s = [] ∧ (rt = some .int ∨ (rt = some .boolean ∧ (v = 0 ∨ v = 1))) ∧ Q (some (.int v)) h) := rfl
theorem e39_0 : exq sa F N S rt cd39 P Q 0 L st h = (ldR L 0 fun v => P 1 L (v :: st) h) := rfl
theorem e39_1 : exq sa F N S rt cd39 P Q 1 L st h = (ex1 sa F N S rt P Q 1 L st h (.invokespecial 3) 3 0 1 0) := rfl
theorem e39_4 : exq sa F N S rt cd39 P Q 4 L st h = (ldR L 0 fun v => P 5 L (v :: st) h) := rfl
theorem e39_5 : exq sa F N S rt cd39 P Q 5 L st h = (ex1 sa F N S rt P Q 5 L st h (.new 9) 2 15 0 0) := rfl
theorem e39_8 : exq sa F N S rt cd39 P Q 8 L st h = (du1 st fun v s => P 9 L (v :: v :: s) h) := rfl
theorem e39_9 : exq sa F N S rt cd39 P Q 9 L st h = (ex1 sa F N S rt P Q 9 L st h (.invokespecial 11) 12 11 1 2) := rfl
theorem e39_12 : exq sa F N S rt cd39 P Q 12 L st h = (pfd st h 3 0 2 fun s h' => P 15 L s h') := rfl
theorem e39_15 : exq sa F N S rt cd39 P Q 15 L st h = (ldR L 0 fun v => P 16 L (v :: st) h) := rfl
theorem e39_16 : exq sa F N S rt cd39 P Q 16 L st h = (ex1 sa F N S rt P Q 16 L st h (.new 9) 2 15 0 0) := rfl
theorem e39_19 : exq sa F N S rt cd39 P Q 19 L st h = (du1 st fun v s => P 20 L (v :: v :: s) h) := rfl
theorem e39_20 : exq sa F N S rt cd39 P Q 20 L st h = (ex1 sa F N S rt P Q 20 L st h (.invokespecial 11) 12 11 1 2) := rfl
theorem e39_23 : exq sa F N S rt cd39 P Q 23 L st h = (pfd st h 3 1 2 fun s h' => P 26 L s h') := rfl
theorem e39_26 : exq sa F N S rt cd39 P Q 26 L st h = (ldR L 0 fun v => P 27 L (v :: st) h) := rfl
theorem e39_27 : exq sa F N S rt cd39 P Q 27 L st h = (P 29 L (.int (Int32.ofInt (32)) :: st) h) := rfl
theorem e39_29 : exq sa F N S rt cd39 P Q 29 L st h = (ex1 sa F N S rt P Q 29 L st h (.newarray .int) 0 0 0 0) := rfl
theorem e39_31 : exq sa F N S rt cd39 P Q 31 L st h = (pfd st h 3 2 2 fun s h' => P 34 L s h') := rfl
theorem e39_34 : exq sa F N S rt cd39 P Q 34 L st h = (ldR L 0 fun v => P 35 L (v :: st) h) := rfl
theorem e39_35 : exq sa F N S rt cd39 P Q 35 L st h = (P 37 L (.int (Int32.ofInt (12)) :: st) h) := rfl
theorem e39_37 : exq sa F N S rt cd39 P Q 37 L st h = (ex1 sa F N S rt P Q 37 L st h (.newarray .int) 0 0 0 0) := rfl
theorem e39_39 : exq sa F N S rt cd39 P Q 39 L st h = (pfd st h 3 3 2 fun s h' => P 42 L s h') := rfl
theorem e39_42 : exq sa F N S rt cd39 P Q 42 L st h = (st = [] ∧ rt = none ∧ Q none h) := rfl
theorem e40_0 : exq sa F N S rt cd40 P Q 0 L st h = (ldR L 0 fun v => P 1 L (v :: st) h) := rfl
theorem e40_1 : exq sa F N S rt cd40 P Q 1 L st h = (tR st fun a s => opt (hO h a 3) fun fs => opt (fs[0]?) fun v => P 4 L (v :: s) h) := rfl
theorem e40_4 : exq sa F N S rt cd40 P Q 4 L st h = (ldR L 1 fun v => P 5 L (v :: st) h) := rfl
theorem e40_5 : exq sa F N S rt cd40 P Q 5 L st h = (ivV F 15 2 2 st h fun r s h' => P 8 L (pu r s) h') := rfl
theorem e40_8 : exq sa F N S rt cd40 P Q 8 L st h = (ldR L 0 fun v => P 9 L (v :: st) h) := rfl
theorem e40_9 : exq sa F N S rt cd40 P Q 9 L st h = (tR st fun a s => opt (hO h a 3) fun fs => opt (fs[0]?) fun v => P 12 L (v :: s) h) := rfl
theorem e40_12 : exq sa F N S rt cd40 P Q 12 L st h = (ldI L 2 fun v => P 13 L (.int v :: st) h) := rfl
theorem e40_13 : exq sa F N S rt cd40 P Q 13 L st h = (ivV F 27 2 2 st h fun r s h' => P 16 L (pu r s) h') := rfl
theorem e40_16 : exq sa F N S rt cd40 P Q 16 L st h = (ldR L 0 fun v => P 17 L (v :: st) h) := rfl
theorem e40_17 : exq sa F N S rt cd40 P Q 17 L st h = (tR st fun a s => opt (hO h a 3) fun fs => opt (fs[0]?) fun v => P 20 L (v :: s) h) := rfl
theorem e40_20 : exq sa F N S rt cd40 P Q 20 L st h = (tR st fun v s => s = [] ∧ rt = some (.object "HawkAsks$Castle") ∧ Q (some (.ref v)) h) := rfl
theorem e41_0 : exq sa F N S rt cd41 P Q 0 L st h = (ldR L 0 fun v => P 1 L (v :: st) h) := rfl
theorem e41_1 : exq sa F N S rt cd41 P Q 1 L st h = (tR st fun a s => opt (hO h a 3) fun fs => opt (fs[0]?) fun v => P 4 L (v :: s) h) := rfl
theorem e41_4 : exq sa F N S rt cd41 P Q 4 L st h = (ldR L 1 fun v => P 5 L (v :: st) h) := rfl
theorem e41_5 : exq sa F N S rt cd41 P Q 5 L st h = (ivV F 15 2 2 st h fun r s h' => P 8 L (pu r s) h') := rfl
theorem e41_8 : exq sa F N S rt cd41 P Q 8 L st h = (ldR L 0 fun v => P 9 L (v :: st) h) := rfl
theorem e41_9 : exq sa F N S rt cd41 P Q 9 L st h = (ldI L 2 fun v => P 10 L (.int v :: st) h) := rfl
theorem e41_10 : exq sa F N S rt cd41 P Q 10 L st h = (P 11 L (.int (Int32.ofInt (0)) :: st) h) := rfl
theorem e41_11 : exq sa F N S rt cd41 P Q 11 L st h = (ivV F 42 3 3 st h fun r s h' => P 14 L (pu r s) h') := rfl
theorem e41_14 : exq sa F N S rt cd41 P Q 14 L st h = (tI st fun v s => s = [] ∧ (rt = some .int ∨ (rt = some .boolean ∧ (v = 0 ∨ v = 1))) ∧ Q (some (.int v)) h) := rfl
theorem e42_0 : exq sa F N S rt cd42 P Q 0 L st h = (ldI L 2 fun v => P 1 L (.int v :: st) h) := rfl
theorem e42_1 : exq sa F N S rt cd42 P Q 1 L st h = (tI st fun v s => lvS L 3 (.int v) fun L' => P 2 L' s h) := rfl
theorem e42_2 : exq sa F N S rt cd42 P Q 2 L st h = (ldI L 3 fun v => P 3 L (.int v :: st) h) := rfl
theorem e42_3 : exq sa F N S rt cd42 P Q 3 L st h = (P 5 L (.int (Int32.ofInt (60)) :: st) h) := rfl
theorem e42_5 : exq sa F N S rt cd42 P Q 5 L st h = (tI st fun b s => tI s fun a s => br (b < a) (P 35 L s h) (P 8 L s h)) := rfl
theorem e42_8 : exq sa F N S rt cd42 P Q 8 L st h = (ldR L 0 fun v => P 9 L (v :: st) h) := rfl
theorem e42_9 : exq sa F N S rt cd42 P Q 9 L st h = (tR st fun a s => opt (hO h a 3) fun fs => opt (fs[0]?) fun v => P 12 L (v :: s) h) := rfl
theorem e42_12 : exq sa F N S rt cd42 P Q 12 L st h = (ldI L 1 fun v => P 13 L (.int v :: st) h) := rfl
theorem e42_13 : exq sa F N S rt cd42 P Q 13 L st h = (ivV F 20 2 2 st h fun r s h' => P 16 L (pu r s) h') := rfl
theorem e42_16 : exq sa F N S rt cd42 P Q 16 L st h = (tI st fun a s => br (a = 0) (P 21 L s h) (P 19 L s h)) := rfl
theorem e42_19 : exq sa F N S rt cd42 P Q 19 L st h = (ldI L 3 fun v => P 20 L (.int v :: st) h) := rfl
theorem e42_20 : exq sa F N S rt cd42 P Q 20 L st h = (tI st fun v s => s = [] ∧ (rt = some .int ∨ (rt = some .boolean ∧ (v = 0 ∨ v = 1))) ∧ Q (some (.int v)) h) := rfl
theorem e42_21 : exq sa F N S rt cd42 P Q 21 L st h = (ldR L 0 fun v => P 22 L (v :: st) h) := rfl
theorem e42_22 : exq sa F N S rt cd42 P Q 22 L st h = (tR st fun a s => opt (hO h a 3) fun fs => opt (fs[0]?) fun v => P 25 L (v :: s) h) := rfl
theorem e42_25 : exq sa F N S rt cd42 P Q 25 L st h = (P 26 L (.int (Int32.ofInt (1)) :: st) h) := rfl
theorem e42_26 : exq sa F N S rt cd42 P Q 26 L st h = (ivV F 27 2 2 st h fun r s h' => P 29 L (pu r s) h') := rfl
theorem e42_29 : exq sa F N S rt cd42 P Q 29 L st h = (ldI L 3 fun v => lvS L 3 (.int (v + Int32.ofInt (1))) fun L' => P 32 L' st h) := rfl
theorem e42_32 : exq sa F N S rt cd42 P Q 32 L st h = (P 2 L st h) := rfl
theorem e42_35 : exq sa F N S rt cd42 P Q 35 L st h = (P 37 L (.int (Int32.ofInt (-1000000)) :: st) h) := rfl
theorem e42_37 : exq sa F N S rt cd42 P Q 37 L st h = (tI st fun v s => s = [] ∧ (rt = some .int ∨ (rt = some .boolean ∧ (v = 0 ∨ v = 1))) ∧ Q (some (.int v)) h) := rfl
theorem e43_0 : exq sa F N S rt cd43 P Q 0 L st h = (ldR L 0 fun v => P 1 L (v :: st) h) := rfl
theorem e43_1 : exq sa F N S rt cd43 P Q 1 L st h = (tR st fun a s => opt (hO h a 3) fun fs => opt (fs[0]?) fun v => P 4 L (v :: s) h) := rfl
theorem e43_4 : exq sa F N S rt cd43 P Q 4 L st h = (ldR L 1 fun v => P 5 L (v :: st) h) := rfl
theorem e43_5 : exq sa F N S rt cd43 P Q 5 L st h = (ivV F 15 2 2 st h fun r s h' => P 8 L (pu r s) h') := rfl
theorem e43_8 : exq sa F N S rt cd43 P Q 8 L st h = (P 9 L (.int (Int32.ofInt (0)) :: st) h) := rfl
theorem e43_9 : exq sa F N S rt cd43 P Q 9 L st h = (tI st fun v s => lvS L 3 (.int v) fun L' => P 10 L' s h) := rfl
theorem e43_10 : exq sa F N S rt cd43 P Q 10 L st h = (ldI L 3 fun v => P 11 L (.int v :: st) h) := rfl
theorem e43_11 : exq sa F N S rt cd43 P Q 11 L st h = (P 13 L (.int (Int32.ofInt (60)) :: st) h) := rfl
theorem e43_13 : exq sa F N S rt cd43 P Q 13 L st h = (tI st fun b s => tI s fun a s => br (b < a) (P 45 L s h) (P 16 L s h)) := rfl
theorem e43_16 : exq sa F N S rt cd43 P Q 16 L st h = (ldR L 0 fun v => P 17 L (v :: st) h) := rfl
theorem e43_17 : exq sa F N S rt cd43 P Q 17 L st h = (tR st fun a s => opt (hO h a 3) fun fs => opt (fs[0]?) fun v => P 20 L (v :: s) h) := rfl
theorem e43_20 : exq sa F N S rt cd43 P Q 20 L st h = (tR st fun a s => opt (hO h a 2) fun fs => opt (fs[7]?) fun v => P 23 L (v :: s) h) := rfl
theorem e43_23 : exq sa F N S rt cd43 P Q 23 L st h = (ldI L 2 fun v => P 24 L (.int v :: st) h) := rfl
theorem e43_24 : exq sa F N S rt cd43 P Q 24 L st h = (ald sa st h fun v s => P 25 L (.int v :: s) h) := rfl
theorem e43_25 : exq sa F N S rt cd43 P Q 25 L st h = (P 26 L (.int (Int32.ofInt (2)) :: st) h) := rfl
theorem e43_26 : exq sa F N S rt cd43 P Q 26 L st h = (tI st fun b s => tI s fun a s => br (a = b) (P 29 L s h) (P 31 L s h)) := rfl
theorem e43_29 : exq sa F N S rt cd43 P Q 29 L st h = (ldI L 3 fun v => P 30 L (.int v :: st) h) := rfl
theorem e43_30 : exq sa F N S rt cd43 P Q 30 L st h = (tI st fun v s => s = [] ∧ (rt = some .int ∨ (rt = some .boolean ∧ (v = 0 ∨ v = 1))) ∧ Q (some (.int v)) h) := rfl
theorem e43_31 : exq sa F N S rt cd43 P Q 31 L st h = (ldR L 0 fun v => P 32 L (v :: st) h) := rfl
theorem e43_32 : exq sa F N S rt cd43 P Q 32 L st h = (tR st fun a s => opt (hO h a 3) fun fs => opt (fs[0]?) fun v => P 35 L (v :: s) h) := rfl
theorem e43_35 : exq sa F N S rt cd43 P Q 35 L st h = (P 36 L (.int (Int32.ofInt (1)) :: st) h) := rfl
theorem e43_36 : exq sa F N S rt cd43 P Q 36 L st h = (ivV F 27 2 2 st h fun r s h' => P 39 L (pu r s) h') := rfl
theorem e43_39 : exq sa F N S rt cd43 P Q 39 L st h = (ldI L 3 fun v => lvS L 3 (.int (v + Int32.ofInt (1))) fun L' => P 42 L' st h) := rfl
theorem e43_42 : exq sa F N S rt cd43 P Q 42 L st h = (P 10 L st h) := rfl
theorem e43_45 : exq sa F N S rt cd43 P Q 45 L st h = (P 47 L (.int (Int32.ofInt (-1000000)) :: st) h) := rfl
theorem e43_47 : exq sa F N S rt cd43 P Q 47 L st h = (tI st fun v s => s = [] ∧ (rt = some .int ∨ (rt = some .boolean ∧ (v = 0 ∨ v = 1))) ∧ Q (some (.int v)) h) := rfl
theorem e44_0 : exq sa F N S rt cd44 P Q 0 L st h = (ldR L 0 fun v => P 1 L (v :: st) h) := rfl
theorem e44_1 : exq sa F N S rt cd44 P Q 1 L st h = (tR st fun a s => opt (hO h a 3) fun fs => opt (fs[0]?) fun v => P 4 L (v :: s) h) := rfl
theorem e44_4 : exq sa F N S rt cd44 P Q 4 L st h = (ldR L 1 fun v => P 5 L (v :: st) h) := rfl
theorem e44_5 : exq sa F N S rt cd44 P Q 5 L st h = (ivV F 15 2 2 st h fun r s h' => P 8 L (pu r s) h') := rfl
theorem e44_8 : exq sa F N S rt cd44 P Q 8 L st h = (P 9 L (.int (Int32.ofInt (1)) :: st) h) := rfl
theorem e44_9 : exq sa F N S rt cd44 P Q 9 L st h = (tI st fun v s => lvS L 3 (.int v) fun L' => P 10 L' s h) := rfl
theorem e44_10 : exq sa F N S rt cd44 P Q 10 L st h = (ldI L 3 fun v => P 11 L (.int v :: st) h) := rfl
theorem e44_11 : exq sa F N S rt cd44 P Q 11 L st h = (P 13 L (.int (Int32.ofInt (60)) :: st) h) := rfl
theorem e44_13 : exq sa F N S rt cd44 P Q 13 L st h = (tI st fun b s => tI s fun a s => br (b < a) (P 80 L s h) (P 16 L s h)) := rfl
theorem e44_16 : exq sa F N S rt cd44 P Q 16 L st h = (ldR L 0 fun v => P 17 L (v :: st) h) := rfl
theorem e44_17 : exq sa F N S rt cd44 P Q 17 L st h = (tR st fun a s => opt (hO h a 3) fun fs => opt (fs[0]?) fun v => P 20 L (v :: s) h) := rfl
theorem e44_20 : exq sa F N S rt cd44 P Q 20 L st h = (P 21 L (.int (Int32.ofInt (1)) :: st) h) := rfl
theorem e44_21 : exq sa F N S rt cd44 P Q 21 L st h = (ivV F 27 2 2 st h fun r s h' => P 24 L (pu r s) h') := rfl
theorem e44_24 : exq sa F N S rt cd44 P Q 24 L st h = (P 25 L (.int (Int32.ofInt (0)) :: st) h) := rfl
theorem e44_25 : exq sa F N S rt cd44 P Q 25 L st h = (tI st fun v s => lvS L 4 (.int v) fun L' => P 27 L' s h) := rfl
theorem e44_27 : exq sa F N S rt cd44 P Q 27 L st h = (ldI L 4 fun v => P 29 L (.int v :: st) h) := rfl
theorem e44_29 : exq sa F N S rt cd44 P Q 29 L st h = (ldR L 1 fun v => P 30 L (v :: st) h) := rfl
theorem e44_30 : exq sa F N S rt cd44 P Q 30 L st h = (tR st fun a s => opt (hO h a 2) fun fs => opt (fs[9]?) fun v => P 33 L (v :: s) h) := rfl
theorem e44_33 : exq sa F N S rt cd44 P Q 33 L st h = (tI st fun b s => tI s fun a s => br (b ≤ a) (P 74 L s h) (P 36 L s h)) := rfl
theorem e44_36 : exq sa F N S rt cd44 P Q 36 L st h = (ldR L 0 fun v => P 37 L (v :: st) h) := rfl
theorem e44_37 : exq sa F N S rt cd44 P Q 37 L st h = (tR st fun a s => opt (hO h a 3) fun fs => opt (fs[0]?) fun v => P 40 L (v :: s) h) := rfl
theorem e44_40 : exq sa F N S rt cd44 P Q 40 L st h = (ldI L 4 fun v => P 42 L (.int v :: st) h) := rfl
theorem e44_42 : exq sa F N S rt cd44 P Q 42 L st h = (ivV F 20 2 2 st h fun r s h' => P 45 L (pu r s) h') := rfl
theorem e44_45 : exq sa F N S rt cd44 P Q 45 L st h = (tI st fun a s => br (a = 0) (P 68 L s h) (P 48 L s h)) := rfl
theorem e44_48 : exq sa F N S rt cd44 P Q 48 L st h = (ldR L 1 fun v => P 49 L (v :: st) h) := rfl
theorem e44_49 : exq sa F N S rt cd44 P Q 49 L st h = (ldI L 4 fun v => P 51 L (.int v :: st) h) := rfl
theorem e44_51 : exq sa F N S rt cd44 P Q 51 L st h = (ivV F 20 2 2 st h fun r s h' => P 54 L (pu r s) h') := rfl
theorem e44_54 : exq sa F N S rt cd44 P Q 54 L st h = (tI st fun a s => br (a = 0) (P 57 L s h) (P 68 L s h)) := rfl
theorem e44_57 : exq sa F N S rt cd44 P Q 57 L st h = (ldI L 2 fun v => P 58 L (.int v :: st) h) := rfl
theorem e44_58 : exq sa F N S rt cd44 P Q 58 L st h = (tI st fun a s => br (a = 0) (P 61 L s h) (P 66 L s h)) := rfl
theorem e44_61 : exq sa F N S rt cd44 P Q 61 L st h = (ldI L 4 fun v => P 63 L (.int v :: st) h) := rfl
theorem e44_63 : exq sa F N S rt cd44 P Q 63 L st h = (P 67 L st h) := rfl
theorem e44_66 : exq sa F N S rt cd44 P Q 66 L st h = (ldI L 3 fun v => P 67 L (.int v :: st) h) := rfl
theorem e44_67 : exq sa F N S rt cd44 P Q 67 L st h = (tI st fun v s => s = [] ∧ (rt = some .int ∨ (rt = some .boolean ∧ (v = 0 ∨ v = 1))) ∧ Q (some (.int v)) h) := rfl
theorem e44_68 : exq sa F N S rt cd44 P Q 68 L st h = (ldI L 4 fun v => lvS L 4 (.int (v + Int32.ofInt (1))) fun L' => P 71 L' st h) := rfl
theorem e44_71 : exq sa F N S rt cd44 P Q 71 L st h = (P 27 L st h) := rfl
theorem e44_74 : exq sa F N S rt cd44 P Q 74 L st h = (ldI L 3 fun v => lvS L 3 (.int (v + Int32.ofInt (1))) fun L' => P 77 L' st h) := rfl
theorem e44_77 : exq sa F N S rt cd44 P Q 77 L st h = (P 10 L st h) := rfl
theorem e44_80 : exq sa F N S rt cd44 P Q 80 L st h = (P 82 L (.int (Int32.ofInt (-1000000)) :: st) h) := rfl
theorem e44_82 : exq sa F N S rt cd44 P Q 82 L st h = (tI st fun v s => s = [] ∧ (rt = some .int ∨ (rt = some .boolean ∧ (v = 0 ∨ v = 1))) ∧ Q (some (.int v)) h) := rfl
theorem e45_0 : exq sa F N S rt cd45 P Q 0 L st h = (ldR L 1 fun v => P 1 L (v :: st) h) := rfl
theorem e45_1 : exq sa F N S rt cd45 P Q 1 L st h = (P 2 L (.int (Int32.ofInt (0)) :: st) h) := rfl
theorem e45_2 : exq sa F N S rt cd45 P Q 2 L st h = (ivV F 22 2 2 st h fun r s h' => P 5 L (pu r s) h') := rfl
theorem e45_5 : exq sa F N S rt cd45 P Q 5 L st h = (tI st fun v s => lvS L 4 (.int v) fun L' => P 7 L' s h) := rfl
theorem e45_7 : exq sa F N S rt cd45 P Q 7 L st h = (P 8 L (.int (Int32.ofInt (0)) :: st) h) := rfl
theorem e45_8 : exq sa F N S rt cd45 P Q 8 L st h = (tI st fun v s => lvS L 5 (.int v) fun L' => P 10 L' s h) := rfl
theorem e45_10 : exq sa F N S rt cd45 P Q 10 L st h = (P 11 L (.int (Int32.ofInt (-1)) :: st) h) := rfl
theorem e45_11 : exq sa F N S rt cd45 P Q 11 L st h = (tI st fun v s => lvS L 6 (.int v) fun L' => P 13 L' s h) := rfl
theorem e45_13 : exq sa F N S rt cd45 P Q 13 L st h = (P 14 L (.int (Int32.ofInt (0)) :: st) h) := rfl
theorem e45_14 : exq sa F N S rt cd45 P Q 14 L st h = (tI st fun v s => lvS L 7 (.int v) fun L' => P 16 L' s h) := rfl
theorem e45_16 : exq sa F N S rt cd45 P Q 16 L st h = (ldI L 7 fun v => P 18 L (.int v :: st) h) := rfl
theorem e45_18 : exq sa F N S rt cd45 P Q 18 L st h = (P 20 L (.int (Int32.ofInt (32)) :: st) h) := rfl
theorem e45_20 : exq sa F N S rt cd45 P Q 20 L st h = (tI st fun b s => tI s fun a s => br (b ≤ a) (P 87 L s h) (P 23 L s h)) := rfl
theorem e45_23 : exq sa F N S rt cd45 P Q 23 L st h = (ldI L 7 fun v => P 25 L (.int v :: st) h) := rfl
theorem e45_25 : exq sa F N S rt cd45 P Q 25 L st h = (ldI L 4 fun v => P 27 L (.int v :: st) h) := rfl
theorem e45_27 : exq sa F N S rt cd45 P Q 27 L st h = (P 28 L (.int (Int32.ofInt (-1)) :: st) h) := rfl
theorem e45_28 : exq sa F N S rt cd45 P Q 28 L st h = (tI st fun b s => tI s fun a s => P 29 L (.int (a ^^^ b) :: s) h) := rfl
theorem e45_29 : exq sa F N S rt cd45 P Q 29 L st h = (tI st fun b s => tI s fun a s => P 30 L (.int (a &&& b) :: s) h) := rfl
theorem e45_30 : exq sa F N S rt cd45 P Q 30 L st h = (tI st fun a s => br (a = 0) (P 33 L s h) (P 81 L s h)) := rfl
theorem e45_33 : exq sa F N S rt cd45 P Q 33 L st h = (ldR L 0 fun v => P 34 L (v :: st) h) := rfl
theorem e45_34 : exq sa F N S rt cd45 P Q 34 L st h = (ldR L 1 fun v => P 35 L (v :: st) h) := rfl
theorem e45_35 : exq sa F N S rt cd45 P Q 35 L st h = (ldI L 7 fun v => P 37 L (.int v :: st) h) := rfl
theorem e45_37 : exq sa F N S rt cd45 P Q 37 L st h = (ldI L 2 fun v => P 38 L (.int v :: st) h) := rfl
theorem e45_38 : exq sa F N S rt cd45 P Q 38 L st h = (ivV F 46 4 3 st h fun r s h' => P 41 L (pu r s) h') := rfl
theorem e45_41 : exq sa F N S rt cd45 P Q 41 L st h = (ivV F 21 1 2 st h fun r s h' => P 44 L (pu r s) h') := rfl
theorem e45_44 : exq sa F N S rt cd45 P Q 44 L st h = (tI st fun v s => lvS L 8 (.int v) fun L' => P 46 L' s h) := rfl
theorem e45_46 : exq sa F N S rt cd45 P Q 46 L st h = (ldI L 8 fun v => P 48 L (.int v :: st) h) := rfl
theorem e45_48 : exq sa F N S rt cd45 P Q 48 L st h = (ldI L 6 fun v => P 50 L (.int v :: st) h) := rfl
theorem e45_50 : exq sa F N S rt cd45 P Q 50 L st h = (tI st fun b s => tI s fun a s => br (b < a) (P 73 L s h) (P 53 L s h)) := rfl
theorem e45_53 : exq sa F N S rt cd45 P Q 53 L st h = (ldI L 8 fun v => P 55 L (.int v :: st) h) := rfl
theorem e45_55 : exq sa F N S rt cd45 P Q 55 L st h = (ldI L 6 fun v => P 57 L (.int v :: st) h) := rfl
theorem e45_57 : exq sa F N S rt cd45 P Q 57 L st h = (tI st fun b s => tI s fun a s => br (a = b) (P 60 L s h) (P 81 L s h)) := rfl
theorem e45_60 : exq sa F N S rt cd45 P Q 60 L st h = (ldI L 7 fun v => P 62 L (.int v :: st) h) := rfl
theorem e45_62 : exq sa F N S rt cd45 P Q 62 L st h = (ivS F 225 1 st h fun r s h' => P 65 L (pu r s) h') := rfl
theorem e45_65 : exq sa F N S rt cd45 P Q 65 L st h = (ldI L 5 fun v => P 67 L (.int v :: st) h) := rfl
theorem e45_67 : exq sa F N S rt cd45 P Q 67 L st h = (ivS F 225 1 st h fun r s h' => P 70 L (pu r s) h') := rfl
theorem e45_70 : exq sa F N S rt cd45 P Q 70 L st h = (tI st fun b s => tI s fun a s => br (b ≤ a) (P 81 L s h) (P 73 L s h)) := rfl
theorem e45_73 : exq sa F N S rt cd45 P Q 73 L st h = (ldI L 7 fun v => P 75 L (.int v :: st) h) := rfl
theorem e45_75 : exq sa F N S rt cd45 P Q 75 L st h = (tI st fun v s => lvS L 5 (.int v) fun L' => P 77 L' s h) := rfl
theorem e45_77 : exq sa F N S rt cd45 P Q 77 L st h = (ldI L 8 fun v => P 79 L (.int v :: st) h) := rfl
theorem e45_79 : exq sa F N S rt cd45 P Q 79 L st h = (tI st fun v s => lvS L 6 (.int v) fun L' => P 81 L' s h) := rfl
theorem e45_81 : exq sa F N S rt cd45 P Q 81 L st h = (ldI L 7 fun v => lvS L 7 (.int (v + Int32.ofInt (1))) fun L' => P 84 L' st h) := rfl
theorem e45_84 : exq sa F N S rt cd45 P Q 84 L st h = (P 16 L st h) := rfl
theorem e45_87 : exq sa F N S rt cd45 P Q 87 L st h = (ldI L 3 fun v => P 88 L (.int v :: st) h) := rfl
theorem e45_88 : exq sa F N S rt cd45 P Q 88 L st h = (tI st fun a s => br (a = 0) (P 91 L s h) (P 96 L s h)) := rfl
theorem e45_91 : exq sa F N S rt cd45 P Q 91 L st h = (ldI L 5 fun v => P 93 L (.int v :: st) h) := rfl
theorem e45_93 : exq sa F N S rt cd45 P Q 93 L st h = (P 98 L st h) := rfl
theorem e45_96 : exq sa F N S rt cd45 P Q 96 L st h = (ldI L 6 fun v => P 98 L (.int v :: st) h) := rfl
theorem e45_98 : exq sa F N S rt cd45 P Q 98 L st h = (tI st fun v s => s = [] ∧ (rt = some .int ∨ (rt = some .boolean ∧ (v = 0 ∨ v = 1))) ∧ Q (some (.int v)) h) := rfl
theorem e46_0 : exq sa F N S rt cd46 P Q 0 L st h = (ldR L 0 fun v => P 1 L (v :: st) h) := rfl
theorem e46_1 : exq sa F N S rt cd46 P Q 1 L st h = (tR st fun a s => opt (hO h a 3) fun fs => opt (fs[0]?) fun v => P 4 L (v :: s) h) := rfl
theorem e46_4 : exq sa F N S rt cd46 P Q 4 L st h = (ldR L 1 fun v => P 5 L (v :: st) h) := rfl
theorem e46_5 : exq sa F N S rt cd46 P Q 5 L st h = (ivV F 15 2 2 st h fun r s h' => P 8 L (pu r s) h') := rfl
theorem e46_8 : exq sa F N S rt cd46 P Q 8 L st h = (ldR L 0 fun v => P 9 L (v :: st) h) := rfl
theorem e46_9 : exq sa F N S rt cd46 P Q 9 L st h = (tR st fun a s => opt (hO h a 3) fun fs => opt (fs[0]?) fun v => P 12 L (v :: s) h) := rfl
theorem e46_12 : exq sa F N S rt cd46 P Q 12 L st h = (ldI L 2 fun v => P 13 L (.int v :: st) h) := rfl
theorem e46_13 : exq sa F N S rt cd46 P Q 13 L st h = (P 14 L (.int (Int32.ofInt (1)) :: st) h) := rfl
theorem e46_14 : exq sa F N S rt cd46 P Q 14 L st h = (ivV F 25 3 2 st h fun r s h' => P 17 L (pu r s) h') := rfl
theorem e46_17 : exq sa F N S rt cd46 P Q 17 L st h = (ldR L 0 fun v => P 18 L (v :: st) h) := rfl
theorem e46_18 : exq sa F N S rt cd46 P Q 18 L st h = (tR st fun a s => opt (hO h a 3) fun fs => opt (fs[0]?) fun v => P 21 L (v :: s) h) := rfl
theorem e46_21 : exq sa F N S rt cd46 P Q 21 L st h = (ldI L 3 fun v => P 22 L (.int v :: st) h) := rfl
theorem e46_22 : exq sa F N S rt cd46 P Q 22 L st h = (ivV F 27 2 2 st h fun r s h' => P 25 L (pu r s) h') := rfl
theorem e46_25 : exq sa F N S rt cd46 P Q 25 L st h = (ldR L 0 fun v => P 26 L (v :: st) h) := rfl
theorem e46_26 : exq sa F N S rt cd46 P Q 26 L st h = (tR st fun a s => opt (hO h a 3) fun fs => opt (fs[0]?) fun v => P 29 L (v :: s) h) := rfl
theorem e46_29 : exq sa F N S rt cd46 P Q 29 L st h = (tR st fun v s => s = [] ∧ rt = some (.object "HawkAsks$Castle") ∧ Q (some (.ref v)) h) := rfl
theorem e47_0 : exq sa F N S rt cd47 P Q 0 L st h = (P 2 L (.int (Int32.ofInt (-1000000)) :: st) h) := rfl
theorem e47_2 : exq sa F N S rt cd47 P Q 2 L st h = (tI st fun v s => lvS L 5 (.int v) fun L' => P 4 L' s h) := rfl
theorem e47_4 : exq sa F N S rt cd47 P Q 4 L st h = (P 6 L (.int (Int32.ofInt (-1000000)) :: st) h) := rfl
theorem e47_6 : exq sa F N S rt cd47 P Q 6 L st h = (tI st fun v s => lvS L 6 (.int v) fun L' => P 8 L' s h) := rfl
theorem e47_8 : exq sa F N S rt cd47 P Q 8 L st h = (ldR L 0 fun v => P 9 L (v :: st) h) := rfl
theorem e47_9 : exq sa F N S rt cd47 P Q 9 L st h = (tR st fun a s => opt (hO h a 3) fun fs => opt (fs[1]?) fun v => P 12 L (v :: s) h) := rfl
theorem e47_12 : exq sa F N S rt cd47 P Q 12 L st h = (ldR L 1 fun v => P 13 L (v :: st) h) := rfl
theorem e47_13 : exq sa F N S rt cd47 P Q 13 L st h = (ivV F 15 2 2 st h fun r s h' => P 16 L (pu r s) h') := rfl
theorem e47_16 : exq sa F N S rt cd47 P Q 16 L st h = (P 17 L (.int (Int32.ofInt (0)) :: st) h) := rfl
theorem e47_17 : exq sa F N S rt cd47 P Q 17 L st h = (tI st fun v s => lvS L 7 (.int v) fun L' => P 19 L' s h) := rfl
theorem e47_19 : exq sa F N S rt cd47 P Q 19 L st h = (ldI L 7 fun v => P 21 L (.int v :: st) h) := rfl
theorem e47_21 : exq sa F N S rt cd47 P Q 21 L st h = (P 23 L (.int (Int32.ofInt (20)) :: st) h) := rfl
theorem e47_23 : exq sa F N S rt cd47 P Q 23 L st h = (tI st fun b s => tI s fun a s => br (b < a) (P 97 L s h) (P 26 L s h)) := rfl
theorem e47_26 : exq sa F N S rt cd47 P Q 26 L st h = (ldR L 0 fun v => P 27 L (v :: st) h) := rfl
theorem e47_27 : exq sa F N S rt cd47 P Q 27 L st h = (tR st fun a s => opt (hO h a 3) fun fs => opt (fs[0]?) fun v => P 30 L (v :: s) h) := rfl
theorem e47_30 : exq sa F N S rt cd47 P Q 30 L st h = (ldR L 0 fun v => P 31 L (v :: st) h) := rfl
theorem e47_31 : exq sa F N S rt cd47 P Q 31 L st h = (tR st fun a s => opt (hO h a 3) fun fs => opt (fs[1]?) fun v => P 34 L (v :: s) h) := rfl
theorem e47_34 : exq sa F N S rt cd47 P Q 34 L st h = (ivV F 15 2 2 st h fun r s h' => P 37 L (pu r s) h') := rfl
theorem e47_37 : exq sa F N S rt cd47 P Q 37 L st h = (ldR L 0 fun v => P 38 L (v :: st) h) := rfl
theorem e47_38 : exq sa F N S rt cd47 P Q 38 L st h = (tR st fun a s => opt (hO h a 3) fun fs => opt (fs[0]?) fun v => P 41 L (v :: s) h) := rfl
theorem e47_41 : exq sa F N S rt cd47 P Q 41 L st h = (ldI L 2 fun v => P 42 L (.int v :: st) h) := rfl
theorem e47_42 : exq sa F N S rt cd47 P Q 42 L st h = (ivV F 23 2 2 st h fun r s h' => P 45 L (pu r s) h') := rfl
theorem e47_45 : exq sa F N S rt cd47 P Q 45 L st h = (ldR L 0 fun v => P 46 L (v :: st) h) := rfl
theorem e47_46 : exq sa F N S rt cd47 P Q 46 L st h = (ldI L 3 fun v => P 47 L (.int v :: st) h) := rfl
theorem e47_47 : exq sa F N S rt cd47 P Q 47 L st h = (ldI L 7 fun v => P 49 L (.int v :: st) h) := rfl
theorem e47_49 : exq sa F N S rt cd47 P Q 49 L st h = (ivV F 42 3 3 st h fun r s h' => P 52 L (pu r s) h') := rfl
theorem e47_52 : exq sa F N S rt cd47 P Q 52 L st h = (tI st fun v s => lvS L 8 (.int v) fun L' => P 54 L' s h) := rfl
theorem e47_54 : exq sa F N S rt cd47 P Q 54 L st h = (ldI L 8 fun v => P 56 L (.int v :: st) h) := rfl
theorem e47_56 : exq sa F N S rt cd47 P Q 56 L st h = (P 58 L (.int (Int32.ofInt (-1000000)) :: st) h) := rfl
theorem e47_58 : exq sa F N S rt cd47 P Q 58 L st h = (tI st fun b s => tI s fun a s => br (a = b) (P 83 L s h) (P 61 L s h)) := rfl
theorem e47_61 : exq sa F N S rt cd47 P Q 61 L st h = (ldI L 6 fun v => P 63 L (.int v :: st) h) := rfl
theorem e47_63 : exq sa F N S rt cd47 P Q 63 L st h = (P 65 L (.int (Int32.ofInt (-1000000)) :: st) h) := rfl
theorem e47_65 : exq sa F N S rt cd47 P Q 65 L st h = (tI st fun b s => tI s fun a s => br (a = b) (P 75 L s h) (P 68 L s h)) := rfl
theorem e47_68 : exq sa F N S rt cd47 P Q 68 L st h = (ldI L 8 fun v => P 70 L (.int v :: st) h) := rfl
theorem e47_70 : exq sa F N S rt cd47 P Q 70 L st h = (ldI L 6 fun v => P 72 L (.int v :: st) h) := rfl
theorem e47_72 : exq sa F N S rt cd47 P Q 72 L st h = (tI st fun b s => tI s fun a s => br (b ≤ a) (P 83 L s h) (P 75 L s h)) := rfl
theorem e47_75 : exq sa F N S rt cd47 P Q 75 L st h = (ldI L 7 fun v => P 77 L (.int v :: st) h) := rfl
theorem e47_77 : exq sa F N S rt cd47 P Q 77 L st h = (tI st fun v s => lvS L 5 (.int v) fun L' => P 79 L' s h) := rfl
theorem e47_79 : exq sa F N S rt cd47 P Q 79 L st h = (ldI L 8 fun v => P 81 L (.int v :: st) h) := rfl
theorem e47_81 : exq sa F N S rt cd47 P Q 81 L st h = (tI st fun v s => lvS L 6 (.int v) fun L' => P 83 L' s h) := rfl
theorem e47_83 : exq sa F N S rt cd47 P Q 83 L st h = (ldR L 0 fun v => P 84 L (v :: st) h) := rfl
theorem e47_84 : exq sa F N S rt cd47 P Q 84 L st h = (tR st fun a s => opt (hO h a 3) fun fs => opt (fs[1]?) fun v => P 87 L (v :: s) h) := rfl
theorem e47_87 : exq sa F N S rt cd47 P Q 87 L st h = (P 88 L (.int (Int32.ofInt (1)) :: st) h) := rfl
theorem e47_88 : exq sa F N S rt cd47 P Q 88 L st h = (ivV F 27 2 2 st h fun r s h' => P 91 L (pu r s) h') := rfl
theorem e47_91 : exq sa F N S rt cd47 P Q 91 L st h = (ldI L 7 fun v => lvS L 7 (.int (v + Int32.ofInt (1))) fun L' => P 94 L' st h) := rfl
theorem e47_94 : exq sa F N S rt cd47 P Q 94 L st h = (P 19 L st h) := rfl
theorem e47_97 : exq sa F N S rt cd47 P Q 97 L st h = (ldI L 4 fun v => P 99 L (.int v :: st) h) := rfl
theorem e47_99 : exq sa F N S rt cd47 P Q 99 L st h = (tI st fun a s => br (a = 0) (P 102 L s h) (P 107 L s h)) := rfl
theorem e47_102 : exq sa F N S rt cd47 P Q 102 L st h = (ldI L 5 fun v => P 104 L (.int v :: st) h) := rfl
theorem e47_104 : exq sa F N S rt cd47 P Q 104 L st h = (P 109 L st h) := rfl
theorem e47_107 : exq sa F N S rt cd47 P Q 107 L st h = (ldI L 6 fun v => P 109 L (.int v :: st) h) := rfl
theorem e47_109 : exq sa F N S rt cd47 P Q 109 L st h = (tI st fun v s => s = [] ∧ (rt = some .int ∨ (rt = some .boolean ∧ (v = 0 ∨ v = 1))) ∧ Q (some (.int v)) h) := rfl
theorem e48_0 : exq sa F N S rt cd48 P Q 0 L st h = (P 1 L (.int (Int32.ofInt (0)) :: st) h) := rfl
theorem e48_1 : exq sa F N S rt cd48 P Q 1 L st h = (tI st fun v s => lvS L 5 (.int v) fun L' => P 3 L' s h) := rfl
theorem e48_3 : exq sa F N S rt cd48 P Q 3 L st h = (P 4 L (.int (Int32.ofInt (0)) :: st) h) := rfl
theorem e48_4 : exq sa F N S rt cd48 P Q 4 L st h = (tI st fun v s => lvS L 6 (.int v) fun L' => P 6 L' s h) := rfl
theorem e48_6 : exq sa F N S rt cd48 P Q 6 L st h = (ldI L 6 fun v => P 8 L (.int v :: st) h) := rfl
theorem e48_8 : exq sa F N S rt cd48 P Q 8 L st h = (P 10 L (.int (Int32.ofInt (9)) :: st) h) := rfl
theorem e48_10 : exq sa F N S rt cd48 P Q 10 L st h = (tI st fun b s => tI s fun a s => br (b < a) (P 71 L s h) (P 13 L s h)) := rfl
theorem e48_13 : exq sa F N S rt cd48 P Q 13 L st h = (ldR L 0 fun v => P 14 L (v :: st) h) := rfl
theorem e48_14 : exq sa F N S rt cd48 P Q 14 L st h = (tR st fun a s => opt (hO h a 3) fun fs => opt (fs[0]?) fun v => P 17 L (v :: s) h) := rfl
theorem e48_17 : exq sa F N S rt cd48 P Q 17 L st h = (ldR L 1 fun v => P 18 L (v :: st) h) := rfl
theorem e48_18 : exq sa F N S rt cd48 P Q 18 L st h = (ivV F 15 2 2 st h fun r s h' => P 21 L (pu r s) h') := rfl
theorem e48_21 : exq sa F N S rt cd48 P Q 21 L st h = (ldR L 0 fun v => P 22 L (v :: st) h) := rfl
theorem e48_22 : exq sa F N S rt cd48 P Q 22 L st h = (tR st fun a s => opt (hO h a 3) fun fs => opt (fs[0]?) fun v => P 25 L (v :: s) h) := rfl
theorem e48_25 : exq sa F N S rt cd48 P Q 25 L st h = (tR st fun a s => opt (hO h a 2) fun fs => opt (fs[5]?) fun v => P 28 L (v :: s) h) := rfl
theorem e48_28 : exq sa F N S rt cd48 P Q 28 L st h = (ldI L 2 fun v => P 29 L (.int v :: st) h) := rfl
theorem e48_29 : exq sa F N S rt cd48 P Q 29 L st h = (ldI L 6 fun v => P 31 L (.int v :: st) h) := rfl
theorem e48_31 : exq sa F N S rt cd48 P Q 31 L st h = (tI st fun v s => tI s fun i s => tR s fun a s => opt (hI h a) fun q => ix i q.1 fun k => P 32 L s (hS h a (.inl (0, q.1, .inl (upd q.2 k v))))) := rfl
theorem e48_32 : exq sa F N S rt cd48 P Q 32 L st h = (ldR L 0 fun v => P 33 L (v :: st) h) := rfl
theorem e48_33 : exq sa F N S rt cd48 P Q 33 L st h = (tR st fun a s => opt (hO h a 3) fun fs => opt (fs[0]?) fun v => P 36 L (v :: s) h) := rfl
theorem e48_36 : exq sa F N S rt cd48 P Q 36 L st h = (ldI L 4 fun v => P 38 L (.int v :: st) h) := rfl
theorem e48_38 : exq sa F N S rt cd48 P Q 38 L st h = (ivV F 27 2 2 st h fun r s h' => P 41 L (pu r s) h') := rfl
theorem e48_41 : exq sa F N S rt cd48 P Q 41 L st h = (ldI L 5 fun v => P 43 L (.int v :: st) h) := rfl
theorem e48_43 : exq sa F N S rt cd48 P Q 43 L st h = (ldR L 0 fun v => P 44 L (v :: st) h) := rfl
theorem e48_44 : exq sa F N S rt cd48 P Q 44 L st h = (tR st fun a s => opt (hO h a 3) fun fs => opt (fs[0]?) fun v => P 47 L (v :: s) h) := rfl
theorem e48_47 : exq sa F N S rt cd48 P Q 47 L st h = (ldI L 3 fun v => P 48 L (.int v :: st) h) := rfl
theorem e48_48 : exq sa F N S rt cd48 P Q 48 L st h = (ivV F 20 2 2 st h fun r s h' => P 51 L (pu r s) h') := rfl
theorem e48_51 : exq sa F N S rt cd48 P Q 51 L st h = (tI st fun a s => br (a = 0) (P 61 L s h) (P 54 L s h)) := rfl
theorem e48_54 : exq sa F N S rt cd48 P Q 54 L st h = (P 55 L (.int (Int32.ofInt (1)) :: st) h) := rfl
theorem e48_55 : exq sa F N S rt cd48 P Q 55 L st h = (ldI L 6 fun v => P 57 L (.int v :: st) h) := rfl
theorem e48_57 : exq sa F N S rt cd48 P Q 57 L st h = (tI st fun b s => tI s fun a s => P 58 L (.int (a <<< (b &&& 31)) :: s) h) := rfl
theorem e48_58 : exq sa F N S rt cd48 P Q 58 L st h = (P 62 L st h) := rfl
theorem e48_61 : exq sa F N S rt cd48 P Q 61 L st h = (P 62 L (.int (Int32.ofInt (0)) :: st) h) := rfl
theorem e48_62 : exq sa F N S rt cd48 P Q 62 L st h = (tI st fun b s => tI s fun a s => P 63 L (.int (a ||| b) :: s) h) := rfl
theorem e48_63 : exq sa F N S rt cd48 P Q 63 L st h = (tI st fun v s => lvS L 5 (.int v) fun L' => P 65 L' s h) := rfl
theorem e48_65 : exq sa F N S rt cd48 P Q 65 L st h = (ldI L 6 fun v => lvS L 6 (.int (v + Int32.ofInt (1))) fun L' => P 68 L' st h) := rfl
theorem e48_68 : exq sa F N S rt cd48 P Q 68 L st h = (P 6 L st h) := rfl
theorem e48_71 : exq sa F N S rt cd48 P Q 71 L st h = (ldI L 5 fun v => P 73 L (.int v :: st) h) := rfl
theorem e48_73 : exq sa F N S rt cd48 P Q 73 L st h = (tI st fun v s => s = [] ∧ (rt = some .int ∨ (rt = some .boolean ∧ (v = 0 ∨ v = 1))) ∧ Q (some (.int v)) h) := rfl
theorem e49_0 : exq sa F N S rt cd49 P Q 0 L st h = (ldR L 1 fun v => P 1 L (v :: st) h) := rfl
theorem e49_1 : exq sa F N S rt cd49 P Q 1 L st h = (P 2 L (.int (Int32.ofInt (0)) :: st) h) := rfl
theorem e49_2 : exq sa F N S rt cd49 P Q 2 L st h = (ivV F 22 2 2 st h fun r s h' => P 5 L (pu r s) h') := rfl
theorem e49_5 : exq sa F N S rt cd49 P Q 5 L st h = (tI st fun v s => lvS L 4 (.int v) fun L' => P 7 L' s h) := rfl
theorem e49_7 : exq sa F N S rt cd49 P Q 7 L st h = (P 8 L (.int (Int32.ofInt (0)) :: st) h) := rfl
theorem e49_8 : exq sa F N S rt cd49 P Q 8 L st h = (tI st fun v s => lvS L 5 (.int v) fun L' => P 10 L' s h) := rfl
theorem e49_10 : exq sa F N S rt cd49 P Q 10 L st h = (ldI L 5 fun v => P 12 L (.int v :: st) h) := rfl
theorem e49_12 : exq sa F N S rt cd49 P Q 12 L st h = (P 14 L (.int (Int32.ofInt (32)) :: st) h) := rfl
theorem e49_14 : exq sa F N S rt cd49 P Q 14 L st h = (tI st fun b s => tI s fun a s => br (b ≤ a) (P 65 L s h) (P 17 L s h)) := rfl
theorem e49_17 : exq sa F N S rt cd49 P Q 17 L st h = (ldI L 5 fun v => P 19 L (.int v :: st) h) := rfl
theorem e49_19 : exq sa F N S rt cd49 P Q 19 L st h = (ldI L 4 fun v => P 21 L (.int v :: st) h) := rfl
theorem e49_21 : exq sa F N S rt cd49 P Q 21 L st h = (P 22 L (.int (Int32.ofInt (-1)) :: st) h) := rfl
theorem e49_22 : exq sa F N S rt cd49 P Q 22 L st h = (tI st fun b s => tI s fun a s => P 23 L (.int (a ^^^ b) :: s) h) := rfl
theorem e49_23 : exq sa F N S rt cd49 P Q 23 L st h = (tI st fun b s => tI s fun a s => P 24 L (.int (a &&& b) :: s) h) := rfl
theorem e49_24 : exq sa F N S rt cd49 P Q 24 L st h = (tI st fun a s => br (a = 0) (P 27 L s h) (P 59 L s h)) := rfl
theorem e49_27 : exq sa F N S rt cd49 P Q 27 L st h = (ldI L 5 fun v => P 29 L (.int v :: st) h) := rfl
theorem e49_29 : exq sa F N S rt cd49 P Q 29 L st h = (ivS F 225 1 st h fun r s h' => P 32 L (pu r s) h') := rfl
theorem e49_32 : exq sa F N S rt cd49 P Q 32 L st h = (ldI L 2 fun v => P 33 L (.int v :: st) h) := rfl
theorem e49_33 : exq sa F N S rt cd49 P Q 33 L st h = (tI st fun b s => tI s fun a s => br (b < a) (P 59 L s h) (P 36 L s h)) := rfl
theorem e49_36 : exq sa F N S rt cd49 P Q 36 L st h = (ldR L 0 fun v => P 37 L (v :: st) h) := rfl
theorem e49_37 : exq sa F N S rt cd49 P Q 37 L st h = (tR st fun a s => opt (hO h a 3) fun fs => opt (fs[2]?) fun v => P 40 L (v :: s) h) := rfl
theorem e49_40 : exq sa F N S rt cd49 P Q 40 L st h = (ldI L 5 fun v => P 42 L (.int v :: st) h) := rfl
theorem e49_42 : exq sa F N S rt cd49 P Q 42 L st h = (ldR L 0 fun v => P 43 L (v :: st) h) := rfl
theorem e49_43 : exq sa F N S rt cd49 P Q 43 L st h = (ldR L 1 fun v => P 44 L (v :: st) h) := rfl
theorem e49_44 : exq sa F N S rt cd49 P Q 44 L st h = (ldI L 5 fun v => P 46 L (.int v :: st) h) := rfl
theorem e49_46 : exq sa F N S rt cd49 P Q 46 L st h = (ldI L 3 fun v => P 47 L (.int v :: st) h) := rfl
theorem e49_47 : exq sa F N S rt cd49 P Q 47 L st h = (ivV F 46 4 3 st h fun r s h' => P 50 L (pu r s) h') := rfl
theorem e49_50 : exq sa F N S rt cd49 P Q 50 L st h = (tR st fun a s => opt (hO h a 2) fun fs => opt (fs[14]?) fun v => P 53 L (v :: s) h) := rfl
theorem e49_53 : exq sa F N S rt cd49 P Q 53 L st h = (ldR L 1 fun v => P 54 L (v :: st) h) := rfl
theorem e49_54 : exq sa F N S rt cd49 P Q 54 L st h = (tR st fun a s => opt (hO h a 2) fun fs => opt (fs[14]?) fun v => P 57 L (v :: s) h) := rfl
theorem e49_57 : exq sa F N S rt cd49 P Q 57 L st h = (tI st fun b s => tI s fun a s => P 58 L (.int (a - b) :: s) h) := rfl
theorem e49_58 : exq sa F N S rt cd49 P Q 58 L st h = (tI st fun v s => tI s fun i s => tR s fun a s => opt (hI h a) fun q => ix i q.1 fun k => P 59 L s (hS h a (.inl (0, q.1, .inl (upd q.2 k v))))) := rfl
theorem e49_59 : exq sa F N S rt cd49 P Q 59 L st h = (ldI L 5 fun v => lvS L 5 (.int (v + Int32.ofInt (1))) fun L' => P 62 L' st h) := rfl
theorem e49_62 : exq sa F N S rt cd49 P Q 62 L st h = (P 10 L st h) := rfl
theorem e49_65 : exq sa F N S rt cd49 P Q 65 L st h = (ldR L 0 fun v => P 66 L (v :: st) h) := rfl
theorem e49_66 : exq sa F N S rt cd49 P Q 66 L st h = (tR st fun a s => opt (hO h a 3) fun fs => opt (fs[2]?) fun v => P 69 L (v :: s) h) := rfl
theorem e49_69 : exq sa F N S rt cd49 P Q 69 L st h = (ldI L 4 fun v => P 71 L (.int v :: st) h) := rfl
theorem e49_71 : exq sa F N S rt cd49 P Q 71 L st h = (P 72 L (.int (Int32.ofInt (0)) :: st) h) := rfl
theorem e49_72 : exq sa F N S rt cd49 P Q 72 L st h = (P 73 L (.int (Int32.ofInt (0)) :: st) h) := rfl
theorem e49_73 : exq sa F N S rt cd49 P Q 73 L st h = (ldI L 2 fun v => P 74 L (.int v :: st) h) := rfl
theorem e49_74 : exq sa F N S rt cd49 P Q 74 L st h = (ivS F 50 5 st h fun r s h' => P 77 L (pu r s) h') := rfl
theorem e49_77 : exq sa F N S rt cd49 P Q 77 L st h = (tI st fun v s => s = [] ∧ (rt = some .int ∨ (rt = some .boolean ∧ (v = 0 ∨ v = 1))) ∧ Q (some (.int v)) h) := rfl
theorem e50_0 : exq sa F N S rt cd50 P Q 0 L st h = (ldI L 3 fun v => P 1 L (.int v :: st) h) := rfl
theorem e50_1 : exq sa F N S rt cd50 P Q 1 L st h = (ldI L 4 fun v => P 3 L (.int v :: st) h) := rfl
theorem e50_3 : exq sa F N S rt cd50 P Q 3 L st h = (tI st fun b s => tI s fun a s => br (a < b) (P 10 L s h) (P 6 L s h)) := rfl
theorem e50_6 : exq sa F N S rt cd50 P Q 6 L st h = (ldR L 0 fun v => P 7 L (v :: st) h) := rfl
theorem e50_7 : exq sa F N S rt cd50 P Q 7 L st h = (ldI L 2 fun v => P 8 L (.int v :: st) h) := rfl
theorem e50_8 : exq sa F N S rt cd50 P Q 8 L st h = (ald sa st h fun v s => P 9 L (.int v :: s) h) := rfl
theorem e50_9 : exq sa F N S rt cd50 P Q 9 L st h = (tI st fun v s => s = [] ∧ (rt = some .int ∨ (rt = some .boolean ∧ (v = 0 ∨ v = 1))) ∧ Q (some (.int v)) h) := rfl
theorem e50_10 : exq sa F N S rt cd50 P Q 10 L st h = (ldR L 0 fun v => P 11 L (v :: st) h) := rfl
theorem e50_11 : exq sa F N S rt cd50 P Q 11 L st h = (ldI L 1 fun v => P 12 L (.int v :: st) h) := rfl
theorem e50_12 : exq sa F N S rt cd50 P Q 12 L st h = (ldI L 2 fun v => P 13 L (.int v :: st) h) := rfl
theorem e50_13 : exq sa F N S rt cd50 P Q 13 L st h = (ldI L 3 fun v => P 14 L (.int v :: st) h) := rfl
theorem e50_14 : exq sa F N S rt cd50 P Q 14 L st h = (P 15 L (.int (Int32.ofInt (1)) :: st) h) := rfl
theorem e50_15 : exq sa F N S rt cd50 P Q 15 L st h = (tI st fun b s => tI s fun a s => P 16 L (.int (a + b) :: s) h) := rfl
theorem e50_16 : exq sa F N S rt cd50 P Q 16 L st h = (ldI L 4 fun v => P 18 L (.int v :: st) h) := rfl
theorem e50_18 : exq sa F N S rt cd50 P Q 18 L st h = (ivS F 50 5 st h fun r s h' => P 21 L (pu r s) h') := rfl
theorem e50_21 : exq sa F N S rt cd50 P Q 21 L st h = (tI st fun v s => lvS L 5 (.int v) fun L' => P 23 L' s h) := rfl
theorem e50_23 : exq sa F N S rt cd50 P Q 23 L st h = (ldI L 3 fun v => P 24 L (.int v :: st) h) := rfl
theorem e50_24 : exq sa F N S rt cd50 P Q 24 L st h = (P 25 L (.int (Int32.ofInt (2)) :: st) h) := rfl
theorem e50_25 : exq sa F N S rt cd50 P Q 25 L st h = (tI st fun b s => tI s fun a s => ¬ b = 0 ∧ P 26 L (.int (a - a / b * b) :: s) h) := rfl
theorem e50_26 : exq sa F N S rt cd50 P Q 26 L st h = (tI st fun v s => lvS L 6 (.int v) fun L' => P 28 L' s h) := rfl
theorem e50_28 : exq sa F N S rt cd50 P Q 28 L st h = (ldI L 6 fun v => P 30 L (.int v :: st) h) := rfl
theorem e50_30 : exq sa F N S rt cd50 P Q 30 L st h = (P 31 L (.int (Int32.ofInt (5)) :: st) h) := rfl
theorem e50_31 : exq sa F N S rt cd50 P Q 31 L st h = (tI st fun b s => tI s fun a s => br (b ≤ a) (P 96 L s h) (P 34 L s h)) := rfl
theorem e50_34 : exq sa F N S rt cd50 P Q 34 L st h = (ldI L 1 fun v => P 35 L (.int v :: st) h) := rfl
theorem e50_35 : exq sa F N S rt cd50 P Q 35 L st h = (ldI L 2 fun v => P 36 L (.int v :: st) h) := rfl
theorem e50_36 : exq sa F N S rt cd50 P Q 36 L st h = (P 37 L (.int (Int32.ofInt (-1)) :: st) h) := rfl
theorem e50_37 : exq sa F N S rt cd50 P Q 37 L st h = (tI st fun b s => tI s fun a s => P 38 L (.int (a ^^^ b) :: s) h) := rfl
theorem e50_38 : exq sa F N S rt cd50 P Q 38 L st h = (tI st fun b s => tI s fun a s => P 39 L (.int (a &&& b) :: s) h) := rfl
theorem e50_39 : exq sa F N S rt cd50 P Q 39 L st h = (P 40 L (.int (Int32.ofInt (1)) :: st) h) := rfl
theorem e50_40 : exq sa F N S rt cd50 P Q 40 L st h = (ldI L 6 fun v => P 42 L (.int v :: st) h) := rfl
theorem e50_42 : exq sa F N S rt cd50 P Q 42 L st h = (tI st fun b s => tI s fun a s => P 43 L (.int (a <<< (b &&& 31)) :: s) h) := rfl
theorem e50_43 : exq sa F N S rt cd50 P Q 43 L st h = (tI st fun b s => tI s fun a s => P 44 L (.int (a &&& b) :: s) h) := rfl
theorem e50_44 : exq sa F N S rt cd50 P Q 44 L st h = (tI st fun a s => br (a = 0) (P 90 L s h) (P 47 L s h)) := rfl
theorem e50_47 : exq sa F N S rt cd50 P Q 47 L st h = (ldR L 0 fun v => P 48 L (v :: st) h) := rfl
theorem e50_48 : exq sa F N S rt cd50 P Q 48 L st h = (ldI L 1 fun v => P 49 L (.int v :: st) h) := rfl
theorem e50_49 : exq sa F N S rt cd50 P Q 49 L st h = (ldI L 2 fun v => P 50 L (.int v :: st) h) := rfl
theorem e50_50 : exq sa F N S rt cd50 P Q 50 L st h = (P 51 L (.int (Int32.ofInt (1)) :: st) h) := rfl
theorem e50_51 : exq sa F N S rt cd50 P Q 51 L st h = (ldI L 6 fun v => P 53 L (.int v :: st) h) := rfl
theorem e50_53 : exq sa F N S rt cd50 P Q 53 L st h = (tI st fun b s => tI s fun a s => P 54 L (.int (a <<< (b &&& 31)) :: s) h) := rfl
theorem e50_54 : exq sa F N S rt cd50 P Q 54 L st h = (tI st fun b s => tI s fun a s => P 55 L (.int (a ||| b) :: s) h) := rfl
theorem e50_55 : exq sa F N S rt cd50 P Q 55 L st h = (ldI L 3 fun v => P 56 L (.int v :: st) h) := rfl
theorem e50_56 : exq sa F N S rt cd50 P Q 56 L st h = (P 57 L (.int (Int32.ofInt (1)) :: st) h) := rfl
theorem e50_57 : exq sa F N S rt cd50 P Q 57 L st h = (tI st fun b s => tI s fun a s => P 58 L (.int (a + b) :: s) h) := rfl
theorem e50_58 : exq sa F N S rt cd50 P Q 58 L st h = (ldI L 4 fun v => P 60 L (.int v :: st) h) := rfl
theorem e50_60 : exq sa F N S rt cd50 P Q 60 L st h = (ivS F 50 5 st h fun r s h' => P 63 L (pu r s) h') := rfl
theorem e50_63 : exq sa F N S rt cd50 P Q 63 L st h = (tI st fun v s => lvS L 7 (.int v) fun L' => P 65 L' s h) := rfl
theorem e50_65 : exq sa F N S rt cd50 P Q 65 L st h = (ldI L 3 fun v => P 66 L (.int v :: st) h) := rfl
theorem e50_66 : exq sa F N S rt cd50 P Q 66 L st h = (P 67 L (.int (Int32.ofInt (2)) :: st) h) := rfl
theorem e50_67 : exq sa F N S rt cd50 P Q 67 L st h = (tI st fun b s => tI s fun a s => ¬ b = 0 ∧ P 68 L (.int (a - a / b * b) :: s) h) := rfl
theorem e50_68 : exq sa F N S rt cd50 P Q 68 L st h = (tI st fun a s => br (a = 0) (P 71 L s h) (P 81 L s h)) := rfl
theorem e50_71 : exq sa F N S rt cd50 P Q 71 L st h = (ldI L 5 fun v => P 73 L (.int v :: st) h) := rfl
theorem e50_73 : exq sa F N S rt cd50 P Q 73 L st h = (ldI L 7 fun v => P 75 L (.int v :: st) h) := rfl
theorem e50_75 : exq sa F N S rt cd50 P Q 75 L st h = (tI st fun b s => tI s fun a s => s.length ≤ 4 ∧ P 78 L (.int (if a < b then b else a) :: s) h) := rfl
theorem e50_78 : exq sa F N S rt cd50 P Q 78 L st h = (P 88 L st h) := rfl
theorem e50_81 : exq sa F N S rt cd50 P Q 81 L st h = (ldI L 5 fun v => P 83 L (.int v :: st) h) := rfl
theorem e50_83 : exq sa F N S rt cd50 P Q 83 L st h = (ldI L 7 fun v => P 85 L (.int v :: st) h) := rfl
theorem e50_85 : exq sa F N S rt cd50 P Q 85 L st h = (tI st fun b s => tI s fun a s => s.length ≤ 4 ∧ P 88 L (.int (if b < a then b else a) :: s) h) := rfl
theorem e50_88 : exq sa F N S rt cd50 P Q 88 L st h = (tI st fun v s => lvS L 5 (.int v) fun L' => P 90 L' s h) := rfl
theorem e50_90 : exq sa F N S rt cd50 P Q 90 L st h = (ldI L 6 fun v => lvS L 6 (.int (v + Int32.ofInt (2))) fun L' => P 93 L' st h) := rfl
theorem e50_93 : exq sa F N S rt cd50 P Q 93 L st h = (P 28 L st h) := rfl
theorem e50_96 : exq sa F N S rt cd50 P Q 96 L st h = (ldI L 5 fun v => P 98 L (.int v :: st) h) := rfl
theorem e50_98 : exq sa F N S rt cd50 P Q 98 L st h = (tI st fun v s => s = [] ∧ (rt = some .int ∨ (rt = some .boolean ∧ (v = 0 ∨ v = 1))) ∧ Q (some (.int v)) h) := rfl
theorem e51_0 : exq sa F N S rt cd51 P Q 0 L st h = (ldR L 0 fun v => P 1 L (v :: st) h) := rfl
theorem e51_1 : exq sa F N S rt cd51 P Q 1 L st h = (ldI L 1 fun v => P 2 L (.int v :: st) h) := rfl
theorem e51_2 : exq sa F N S rt cd51 P Q 2 L st h = (pfd st h 3 4 0 fun s h' => P 5 L s h') := rfl
theorem e51_5 : exq sa F N S rt cd51 P Q 5 L st h = (ldR L 0 fun v => P 6 L (v :: st) h) := rfl
theorem e51_6 : exq sa F N S rt cd51 P Q 6 L st h = (ldI L 4 fun v => P 8 L (.int v :: st) h) := rfl
theorem e51_8 : exq sa F N S rt cd51 P Q 8 L st h = (pfd st h 3 5 0 fun s h' => P 11 L s h') := rfl
theorem e51_11 : exq sa F N S rt cd51 P Q 11 L st h = (ldR L 2 fun v => P 12 L (v :: st) h) := rfl
theorem e51_12 : exq sa F N S rt cd51 P Q 12 L st h = (ldI L 3 fun v => P 13 L (.int v :: st) h) := rfl
theorem e51_13 : exq sa F N S rt cd51 P Q 13 L st h = (ldR L 0 fun v => P 14 L (v :: st) h) := rfl
theorem e51_14 : exq sa F N S rt cd51 P Q 14 L st h = (tR st fun a s => opt (hO h a 3) fun fs => opt (fs[3]?) fun v => P 17 L (v :: s) h) := rfl
theorem e51_17 : exq sa F N S rt cd51 P Q 17 L st h = (P 18 L (.int (Int32.ofInt (0)) :: st) h) := rfl
theorem e51_18 : exq sa F N S rt cd51 P Q 18 L st h = (ldI L 4 fun v => P 20 L (.int v :: st) h) := rfl
theorem e51_20 : exq sa F N S rt cd51 P Q 20 L st h = (ex1 sa F N S rt P Q 20 L st h (.invokestatic 100) 4 0 5 0) := rfl
theorem e51_23 : exq sa F N S rt cd51 P Q 23 L st h = (st = [] ∧ rt = none ∧ Q none h) := rfl
end EL
