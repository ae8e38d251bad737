/-! what each instruction does -/
section EL
variable {sa : aS} {F : aF} {N S : Nat} {rt : Option FieldType} {P : aK} {Q : aQ} {L : aL} {st : List Value} {h : aH}
theorem e52_0 : exq sa F N S rt cd52 P Q 0 L st h = (P 1 L (.int (Int32.ofInt (0)) :: st) h) := rfl
theorem e52_1 : exq sa F N S rt cd52 P Q 1 L st h = (tI st fun v s => lvS L 1 (.int v) fun L' => P 2 L' s h) := rfl
theorem e52_2 : exq sa F N S rt cd52 P Q 2 L st h = (ldI L 1 fun v => P 3 L (.int v :: st) h) := rfl
theorem e52_3 : exq sa F N S rt cd52 P Q 3 L st h = (ldR L 0 fun v => P 4 L (v :: st) h) := rfl
theorem e52_4 : exq sa F N S rt cd52 P Q 4 L st h = (tR st fun a s => opt (hO h a 3) fun fs => opt (fs[5]?) fun v => P 7 L (v :: s) h) := rfl
theorem e52_7 : exq sa F N S rt cd52 P Q 7 L st h = (tI st fun b s => tI s fun a s => br (b ≤ a) (P 47 L s h) (P 10 L s h)) := rfl
theorem e52_10 : exq sa F N S rt cd52 P Q 10 L st h = (ldR L 0 fun v => P 11 L (v :: st) h) := rfl
theorem e52_11 : exq sa F N S rt cd52 P Q 11 L st h = (tR st fun a s => opt (hO h a 3) fun fs => opt (fs[0]?) fun v => P 14 L (v :: s) h) := rfl
theorem e52_14 : exq sa F N S rt cd52 P Q 14 L st h = (P 15 L (.int (Int32.ofInt (1)) :: st) h) := rfl
theorem e52_15 : exq sa F N S rt cd52 P Q 15 L st h = (ivV F 27 2 2 st h fun r s h' => P 18 L (pu r s) h') := rfl
theorem e52_18 : exq sa F N S rt cd52 P Q 18 L st h = (ldR L 0 fun v => P 19 L (v :: st) h) := rfl
theorem e52_19 : exq sa F N S rt cd52 P Q 19 L st h = (tR st fun a s => opt (hO h a 3) fun fs => opt (fs[0]?) fun v => P 22 L (v :: s) h) := rfl
theorem e52_22 : exq sa F N S rt cd52 P Q 22 L st h = (tR st fun a s => opt (hO h a 2) fun fs => opt (fs[6]?) fun v => P 25 L (v :: s) h) := rfl
theorem e52_25 : exq sa F N S rt cd52 P Q 25 L st h = (ldR L 0 fun v => P 26 L (v :: st) h) := rfl
theorem e52_26 : exq sa F N S rt cd52 P Q 26 L st h = (tR st fun a s => opt (hO h a 3) fun fs => opt (fs[4]?) fun v => P 29 L (v :: s) h) := rfl
theorem e52_29 : exq sa F N S rt cd52 P Q 29 L st h = (ald sa st h fun v s => P 30 L (.int v :: s) h) := rfl
theorem e52_30 : exq sa F N S rt cd52 P Q 30 L st h = (ldR L 0 fun v => P 31 L (v :: st) h) := rfl
theorem e52_31 : exq sa F N S rt cd52 P Q 31 L st h = (tR st fun a s => opt (hO h a 3) fun fs => opt (fs[3]?) fun v => P 34 L (v :: s) h) := rfl
theorem e52_34 : exq sa F N S rt cd52 P Q 34 L st h = (ldI L 1 fun v => P 35 L (.int v :: st) h) := rfl
theorem e52_35 : exq sa F N S rt cd52 P Q 35 L st h = (ald sa st h fun v s => P 36 L (.int v :: s) h) := rfl
theorem e52_36 : exq sa F N S rt cd52 P Q 36 L st h = (tI st fun b s => tI s fun a s => br (a = b) (P 41 L s h) (P 39 L s h)) := rfl
theorem e52_39 : exq sa F N S rt cd52 P Q 39 L st h = (P 40 L (.int (Int32.ofInt (0)) :: st) h) := rfl
theorem e52_40 : exq sa F N S rt cd52 P Q 40 L st h = (tI st fun v s => s = [] ∧ (rt = some .int ∨ (rt = some .boolean ∧ (v = 0 ∨ v = 1))) ∧ Q (some (.int v)) h) := rfl
theorem e52_41 : exq sa F N S rt cd52 P Q 41 L st h = (ldI L 1 fun v => lvS L 1 (.int (v + Int32.ofInt (1))) fun L' => P 44 L' st h) := rfl
theorem e52_44 : exq sa F N S rt cd52 P Q 44 L st h = (P 2 L st h) := rfl
theorem e52_47 : exq sa F N S rt cd52 P Q 47 L st h = (P 48 L (.int (Int32.ofInt (1)) :: st) h) := rfl
theorem e52_48 : exq sa F N S rt cd52 P Q 48 L st h = (tI st fun v s => s = [] ∧ (rt = some .int ∨ (rt = some .boolean ∧ (v = 0 ∨ v = 1))) ∧ Q (some (.int v)) h) := rfl
theorem e53_0 : exq sa F N S rt cd53 P Q 0 L st h = (P 1 L (.int (Int32.ofInt (0)) :: st) h) := rfl
theorem e53_1 : exq sa F N S rt cd53 P Q 1 L st h = (tI st fun v s => lvS L 3 (.int v) fun L' => P 2 L' s h) := rfl
theorem e53_2 : exq sa F N S rt cd53 P Q 2 L st h = (P 3 L (.int (Int32.ofInt (1)) :: st) h) := rfl
theorem e53_3 : exq sa F N S rt cd53 P Q 3 L st h = (tI st fun v s => lvS L 4 (.int v) fun L' => P 5 L' s h) := rfl
theorem e53_5 : exq sa F N S rt cd53 P Q 5 L st h = (ldI L 4 fun v => P 7 L (.int v :: st) h) := rfl
theorem e53_7 : exq sa F N S rt cd53 P Q 7 L st h = (P 8 L (.int (Int32.ofInt (5)) :: st) h) := rfl
theorem e53_8 : exq sa F N S rt cd53 P Q 8 L st h = (tI st fun b s => tI s fun a s => br (b < a) (P 54 L s h) (P 11 L s h)) := rfl
theorem e53_11 : exq sa F N S rt cd53 P Q 11 L st h = (ldR L 0 fun v => P 12 L (v :: st) h) := rfl
theorem e53_12 : exq sa F N S rt cd53 P Q 12 L st h = (tR st fun a s => opt (hO h a 3) fun fs => opt (fs[0]?) fun v => P 15 L (v :: s) h) := rfl
theorem e53_15 : exq sa F N S rt cd53 P Q 15 L st h = (ldR L 1 fun v => P 16 L (v :: st) h) := rfl
theorem e53_16 : exq sa F N S rt cd53 P Q 16 L st h = (ivV F 15 2 2 st h fun r s h' => P 19 L (pu r s) h') := rfl
theorem e53_19 : exq sa F N S rt cd53 P Q 19 L st h = (ldR L 0 fun v => P 20 L (v :: st) h) := rfl
theorem e53_20 : exq sa F N S rt cd53 P Q 20 L st h = (tR st fun a s => opt (hO h a 3) fun fs => opt (fs[0]?) fun v => P 23 L (v :: s) h) := rfl
theorem e53_23 : exq sa F N S rt cd53 P Q 23 L st h = (tR st fun a s => opt (hO h a 2) fun fs => opt (fs[4]?) fun v => P 26 L (v :: s) h) := rfl
theorem e53_26 : exq sa F N S rt cd53 P Q 26 L st h = (ldI L 2 fun v => P 27 L (.int v :: st) h) := rfl
theorem e53_27 : exq sa F N S rt cd53 P Q 27 L st h = (ldI L 4 fun v => P 29 L (.int v :: st) h) := rfl
theorem e53_29 : exq sa F N S rt cd53 P Q 29 L st h = (tI st fun v s => tI s fun i s => tR s fun a s => opt (hI h a) fun q => ix i q.1 fun k => P 30 L s (hS h a (.inl (0, q.1, .inl (upd q.2 k v))))) := rfl
theorem e53_30 : exq sa F N S rt cd53 P Q 30 L st h = (ldI L 3 fun v => P 31 L (.int v :: st) h) := rfl
theorem e53_31 : exq sa F N S rt cd53 P Q 31 L st h = (ldR L 0 fun v => P 32 L (v :: st) h) := rfl
theorem e53_32 : exq sa F N S rt cd53 P Q 32 L st h = (ivV F 52 1 3 st h fun r s h' => P 35 L (pu r s) h') := rfl
theorem e53_35 : exq sa F N S rt cd53 P Q 35 L st h = (tI st fun a s => br (a = 0) (P 45 L s h) (P 38 L s h)) := rfl
theorem e53_38 : exq sa F N S rt cd53 P Q 38 L st h = (P 39 L (.int (Int32.ofInt (1)) :: st) h) := rfl
theorem e53_39 : exq sa F N S rt cd53 P Q 39 L st h = (ldI L 4 fun v => P 41 L (.int v :: st) h) := rfl
theorem e53_41 : exq sa F N S rt cd53 P Q 41 L st h = (tI st fun b s => tI s fun a s => P 42 L (.int (a <<< (b &&& 31)) :: s) h) := rfl
theorem e53_42 : exq sa F N S rt cd53 P Q 42 L st h = (P 46 L st h) := rfl
theorem e53_45 : exq sa F N S rt cd53 P Q 45 L st h = (P 46 L (.int (Int32.ofInt (0)) :: st) h) := rfl
theorem e53_46 : exq sa F N S rt cd53 P Q 46 L st h = (tI st fun b s => tI s fun a s => P 47 L (.int (a ||| b) :: s) h) := rfl
theorem e53_47 : exq sa F N S rt cd53 P Q 47 L st h = (tI st fun v s => lvS L 3 (.int v) fun L' => P 48 L' s h) := rfl
theorem e53_48 : exq sa F N S rt cd53 P Q 48 L st h = (ldI L 4 fun v => lvS L 4 (.int (v + Int32.ofInt (1))) fun L' => P 51 L' st h) := rfl
theorem e53_51 : exq sa F N S rt cd53 P Q 51 L st h = (P 5 L st h) := rfl
theorem e53_54 : exq sa F N S rt cd53 P Q 54 L st h = (ldI L 3 fun v => P 55 L (.int v :: st) h) := rfl
theorem e53_55 : exq sa F N S rt cd53 P Q 55 L st h = (tI st fun v s => s = [] ∧ (rt = some .int ∨ (rt = some .boolean ∧ (v = 0 ∨ v = 1))) ∧ Q (some (.int v)) h) := rfl
theorem e54_0 : exq sa F N S rt cd54 P Q 0 L st h = (P 1 L (.int (Int32.ofInt (0)) :: st) h) := rfl
theorem e54_1 : exq sa F N S rt cd54 P Q 1 L st h = (tI st fun v s => lvS L 3 (.int v) fun L' => P 2 L' s h) := rfl
theorem e54_2 : exq sa F N S rt cd54 P Q 2 L st h = (P 3 L (.int (Int32.ofInt (0)) :: st) h) := rfl
theorem e54_3 : exq sa F N S rt cd54 P Q 3 L st h = (tI st fun v s => lvS L 4 (.int v) fun L' => P 5 L' s h) := rfl
theorem e54_5 : exq sa F N S rt cd54 P Q 5 L st h = (ldI L 4 fun v => P 7 L (.int v :: st) h) := rfl
theorem e54_7 : exq sa F N S rt cd54 P Q 7 L st h = (P 9 L (.int (Int32.ofInt (9)) :: st) h) := rfl
theorem e54_9 : exq sa F N S rt cd54 P Q 9 L st h = (tI st fun b s => tI s fun a s => br (b < a) (P 55 L s h) (P 12 L s h)) := rfl
theorem e54_12 : exq sa F N S rt cd54 P Q 12 L st h = (ldR L 0 fun v => P 13 L (v :: st) h) := rfl
theorem e54_13 : exq sa F N S rt cd54 P Q 13 L st h = (tR st fun a s => opt (hO h a 3) fun fs => opt (fs[0]?) fun v => P 16 L (v :: s) h) := rfl
theorem e54_16 : exq sa F N S rt cd54 P Q 16 L st h = (ldR L 1 fun v => P 17 L (v :: st) h) := rfl
theorem e54_17 : exq sa F N S rt cd54 P Q 17 L st h = (ivV F 15 2 2 st h fun r s h' => P 20 L (pu r s) h') := rfl
theorem e54_20 : exq sa F N S rt cd54 P Q 20 L st h = (ldR L 0 fun v => P 21 L (v :: st) h) := rfl
theorem e54_21 : exq sa F N S rt cd54 P Q 21 L st h = (tR st fun a s => opt (hO h a 3) fun fs => opt (fs[0]?) fun v => P 24 L (v :: s) h) := rfl
theorem e54_24 : exq sa F N S rt cd54 P Q 24 L st h = (tR st fun a s => opt (hO h a 2) fun fs => opt (fs[5]?) fun v => P 27 L (v :: s) h) := rfl
theorem e54_27 : exq sa F N S rt cd54 P Q 27 L st h = (ldI L 2 fun v => P 28 L (.int v :: st) h) := rfl
theorem e54_28 : exq sa F N S rt cd54 P Q 28 L st h = (ldI L 4 fun v => P 30 L (.int v :: st) h) := rfl
theorem e54_30 : exq sa F N S rt cd54 P Q 30 L st h = (tI st fun v s => tI s fun i s => tR s fun a s => opt (hI h a) fun q => ix i q.1 fun k => P 31 L s (hS h a (.inl (0, q.1, .inl (upd q.2 k v))))) := rfl
theorem e54_31 : exq sa F N S rt cd54 P Q 31 L st h = (ldI L 3 fun v => P 32 L (.int v :: st) h) := rfl
theorem e54_32 : exq sa F N S rt cd54 P Q 32 L st h = (ldR L 0 fun v => P 33 L (v :: st) h) := rfl
theorem e54_33 : exq sa F N S rt cd54 P Q 33 L st h = (ivV F 52 1 3 st h fun r s h' => P 36 L (pu r s) h') := rfl
theorem e54_36 : exq sa F N S rt cd54 P Q 36 L st h = (tI st fun a s => br (a = 0) (P 46 L s h) (P 39 L s h)) := rfl
theorem e54_39 : exq sa F N S rt cd54 P Q 39 L st h = (P 40 L (.int (Int32.ofInt (1)) :: st) h) := rfl
theorem e54_40 : exq sa F N S rt cd54 P Q 40 L st h = (ldI L 4 fun v => P 42 L (.int v :: st) h) := rfl
theorem e54_42 : exq sa F N S rt cd54 P Q 42 L st h = (tI st fun b s => tI s fun a s => P 43 L (.int (a <<< (b &&& 31)) :: s) h) := rfl
theorem e54_43 : exq sa F N S rt cd54 P Q 43 L st h = (P 47 L st h) := rfl
theorem e54_46 : exq sa F N S rt cd54 P Q 46 L st h = (P 47 L (.int (Int32.ofInt (0)) :: st) h) := rfl
theorem e54_47 : exq sa F N S rt cd54 P Q 47 L st h = (tI st fun b s => tI s fun a s => P 48 L (.int (a ||| b) :: s) h) := rfl
theorem e54_48 : exq sa F N S rt cd54 P Q 48 L st h = (tI st fun v s => lvS L 3 (.int v) fun L' => P 49 L' s h) := rfl
theorem e54_49 : exq sa F N S rt cd54 P Q 49 L st h = (ldI L 4 fun v => lvS L 4 (.int (v + Int32.ofInt (1))) fun L' => P 52 L' st h) := rfl
theorem e54_52 : exq sa F N S rt cd54 P Q 52 L st h = (P 5 L st h) := rfl
theorem e54_55 : exq sa F N S rt cd54 P Q 55 L st h = (ldI L 3 fun v => P 56 L (.int v :: st) h) := rfl
theorem e54_56 : exq sa F N S rt cd54 P Q 56 L st h = (tI st fun v s => s = [] ∧ (rt = some .int ∨ (rt = some .boolean ∧ (v = 0 ∨ v = 1))) ∧ Q (some (.int v)) h) := rfl
theorem e55_0 : exq sa F N S rt cd55 P Q 0 L st h = (P 1 L (.int (Int32.ofInt (0)) :: st) h) := rfl
theorem e55_1 : exq sa F N S rt cd55 P Q 1 L st h = (tI st fun v s => lvS L 3 (.int v) fun L' => P 2 L' s h) := rfl
theorem e55_2 : exq sa F N S rt cd55 P Q 2 L st h = (P 3 L (.int (Int32.ofInt (0)) :: st) h) := rfl
theorem e55_3 : exq sa F N S rt cd55 P Q 3 L st h = (tI st fun v s => lvS L 4 (.int v) fun L' => P 5 L' s h) := rfl
theorem e55_5 : exq sa F N S rt cd55 P Q 5 L st h = (ldI L 4 fun v => P 7 L (.int v :: st) h) := rfl
theorem e55_7 : exq sa F N S rt cd55 P Q 7 L st h = (P 8 L (.int (Int32.ofInt (2)) :: st) h) := rfl
theorem e55_8 : exq sa F N S rt cd55 P Q 8 L st h = (tI st fun b s => tI s fun a s => br (b < a) (P 54 L s h) (P 11 L s h)) := rfl
theorem e55_11 : exq sa F N S rt cd55 P Q 11 L st h = (ldR L 0 fun v => P 12 L (v :: st) h) := rfl
theorem e55_12 : exq sa F N S rt cd55 P Q 12 L st h = (tR st fun a s => opt (hO h a 3) fun fs => opt (fs[0]?) fun v => P 15 L (v :: s) h) := rfl
theorem e55_15 : exq sa F N S rt cd55 P Q 15 L st h = (ldR L 1 fun v => P 16 L (v :: st) h) := rfl
theorem e55_16 : exq sa F N S rt cd55 P Q 16 L st h = (ivV F 15 2 2 st h fun r s h' => P 19 L (pu r s) h') := rfl
theorem e55_19 : exq sa F N S rt cd55 P Q 19 L st h = (ldR L 0 fun v => P 20 L (v :: st) h) := rfl
theorem e55_20 : exq sa F N S rt cd55 P Q 20 L st h = (tR st fun a s => opt (hO h a 3) fun fs => opt (fs[0]?) fun v => P 23 L (v :: s) h) := rfl
theorem e55_23 : exq sa F N S rt cd55 P Q 23 L st h = (tR st fun a s => opt (hO h a 2) fun fs => opt (fs[12]?) fun v => P 26 L (v :: s) h) := rfl
theorem e55_26 : exq sa F N S rt cd55 P Q 26 L st h = (ldI L 2 fun v => P 27 L (.int v :: st) h) := rfl
theorem e55_27 : exq sa F N S rt cd55 P Q 27 L st h = (ldI L 4 fun v => P 29 L (.int v :: st) h) := rfl
theorem e55_29 : exq sa F N S rt cd55 P Q 29 L st h = (tI st fun v s => tI s fun i s => tR s fun a s => opt (hI h a) fun q => ix i q.1 fun k => P 30 L s (hS h a (.inl (0, q.1, .inl (upd q.2 k v))))) := rfl
theorem e55_30 : exq sa F N S rt cd55 P Q 30 L st h = (ldI L 3 fun v => P 31 L (.int v :: st) h) := rfl
theorem e55_31 : exq sa F N S rt cd55 P Q 31 L st h = (ldR L 0 fun v => P 32 L (v :: st) h) := rfl
theorem e55_32 : exq sa F N S rt cd55 P Q 32 L st h = (ivV F 52 1 3 st h fun r s h' => P 35 L (pu r s) h') := rfl
theorem e55_35 : exq sa F N S rt cd55 P Q 35 L st h = (tI st fun a s => br (a = 0) (P 45 L s h) (P 38 L s h)) := rfl
theorem e55_38 : exq sa F N S rt cd55 P Q 38 L st h = (P 39 L (.int (Int32.ofInt (1)) :: st) h) := rfl
theorem e55_39 : exq sa F N S rt cd55 P Q 39 L st h = (ldI L 4 fun v => P 41 L (.int v :: st) h) := rfl
theorem e55_41 : exq sa F N S rt cd55 P Q 41 L st h = (tI st fun b s => tI s fun a s => P 42 L (.int (a <<< (b &&& 31)) :: s) h) := rfl
theorem e55_42 : exq sa F N S rt cd55 P Q 42 L st h = (P 46 L st h) := rfl
theorem e55_45 : exq sa F N S rt cd55 P Q 45 L st h = (P 46 L (.int (Int32.ofInt (0)) :: st) h) := rfl
theorem e55_46 : exq sa F N S rt cd55 P Q 46 L st h = (tI st fun b s => tI s fun a s => P 47 L (.int (a ||| b) :: s) h) := rfl
theorem e55_47 : exq sa F N S rt cd55 P Q 47 L st h = (tI st fun v s => lvS L 3 (.int v) fun L' => P 48 L' s h) := rfl
theorem e55_48 : exq sa F N S rt cd55 P Q 48 L st h = (ldI L 4 fun v => lvS L 4 (.int (v + Int32.ofInt (1))) fun L' => P 51 L' st h) := rfl
theorem e55_51 : exq sa F N S rt cd55 P Q 51 L st h = (P 5 L st h) := rfl
theorem e55_54 : exq sa F N S rt cd55 P Q 54 L st h = (ldI L 3 fun v => P 55 L (.int v :: st) h) := rfl
theorem e55_55 : exq sa F N S rt cd55 P Q 55 L st h = (tI st fun v s => s = [] ∧ (rt = some .int ∨ (rt = some .boolean ∧ (v = 0 ∨ v = 1))) ∧ Q (some (.int v)) h) := rfl
theorem e56_0 : exq sa F N S rt cd56 P Q 0 L st h = (P 1 L (.int (Int32.ofInt (0)) :: st) h) := rfl
theorem e56_1 : exq sa F N S rt cd56 P Q 1 L st h = (tI st fun v s => lvS L 3 (.int v) fun L' => P 2 L' s h) := rfl
theorem e56_2 : exq sa F N S rt cd56 P Q 2 L st h = (P 3 L (.int (Int32.ofInt (0)) :: st) h) := rfl
theorem e56_3 : exq sa F N S rt cd56 P Q 3 L st h = (tI st fun v s => lvS L 4 (.int v) fun L' => P 5 L' s h) := rfl
theorem e56_5 : exq sa F N S rt cd56 P Q 5 L st h = (ldI L 4 fun v => P 7 L (.int v :: st) h) := rfl
theorem e56_7 : exq sa F N S rt cd56 P Q 7 L st h = (ldR L 1 fun v => P 8 L (v :: st) h) := rfl
theorem e56_8 : exq sa F N S rt cd56 P Q 8 L st h = (tR st fun a s => opt (hO h a 2) fun fs => opt (fs[0]?) fun v => P 11 L (v :: s) h) := rfl
theorem e56_11 : exq sa F N S rt cd56 P Q 11 L st h = (tI st fun b s => tI s fun a s => br (b ≤ a) (P 57 L s h) (P 14 L s h)) := rfl
theorem e56_14 : exq sa F N S rt cd56 P Q 14 L st h = (ldR L 0 fun v => P 15 L (v :: st) h) := rfl
theorem e56_15 : exq sa F N S rt cd56 P Q 15 L st h = (tR st fun a s => opt (hO h a 3) fun fs => opt (fs[0]?) fun v => P 18 L (v :: s) h) := rfl
theorem e56_18 : exq sa F N S rt cd56 P Q 18 L st h = (ldR L 1 fun v => P 19 L (v :: st) h) := rfl
theorem e56_19 : exq sa F N S rt cd56 P Q 19 L st h = (ivV F 15 2 2 st h fun r s h' => P 22 L (pu r s) h') := rfl
theorem e56_22 : exq sa F N S rt cd56 P Q 22 L st h = (ldR L 0 fun v => P 23 L (v :: st) h) := rfl
theorem e56_23 : exq sa F N S rt cd56 P Q 23 L st h = (tR st fun a s => opt (hO h a 3) fun fs => opt (fs[0]?) fun v => P 26 L (v :: s) h) := rfl
theorem e56_26 : exq sa F N S rt cd56 P Q 26 L st h = (tR st fun a s => opt (hO h a 2) fun fs => opt (fs[10]?) fun v => P 29 L (v :: s) h) := rfl
theorem e56_29 : exq sa F N S rt cd56 P Q 29 L st h = (ldI L 2 fun v => P 30 L (.int v :: st) h) := rfl
theorem e56_30 : exq sa F N S rt cd56 P Q 30 L st h = (ldI L 4 fun v => P 32 L (.int v :: st) h) := rfl
theorem e56_32 : exq sa F N S rt cd56 P Q 32 L st h = (tI st fun v s => tI s fun i s => tR s fun a s => opt (hI h a) fun q => ix i q.1 fun k => P 33 L s (hS h a (.inl (0, q.1, .inl (upd q.2 k v))))) := rfl
theorem e56_33 : exq sa F N S rt cd56 P Q 33 L st h = (ldI L 3 fun v => P 34 L (.int v :: st) h) := rfl
theorem e56_34 : exq sa F N S rt cd56 P Q 34 L st h = (ldR L 0 fun v => P 35 L (v :: st) h) := rfl
theorem e56_35 : exq sa F N S rt cd56 P Q 35 L st h = (ivV F 52 1 3 st h fun r s h' => P 38 L (pu r s) h') := rfl
theorem e56_38 : exq sa F N S rt cd56 P Q 38 L st h = (tI st fun a s => br (a = 0) (P 48 L s h) (P 41 L s h)) := rfl
theorem e56_41 : exq sa F N S rt cd56 P Q 41 L st h = (P 42 L (.int (Int32.ofInt (1)) :: st) h) := rfl
theorem e56_42 : exq sa F N S rt cd56 P Q 42 L st h = (ldI L 4 fun v => P 44 L (.int v :: st) h) := rfl
theorem e56_44 : exq sa F N S rt cd56 P Q 44 L st h = (tI st fun b s => tI s fun a s => P 45 L (.int (a <<< (b &&& 31)) :: s) h) := rfl
theorem e56_45 : exq sa F N S rt cd56 P Q 45 L st h = (P 49 L st h) := rfl
theorem e56_48 : exq sa F N S rt cd56 P Q 48 L st h = (P 49 L (.int (Int32.ofInt (0)) :: st) h) := rfl
theorem e56_49 : exq sa F N S rt cd56 P Q 49 L st h = (tI st fun b s => tI s fun a s => P 50 L (.int (a ||| b) :: s) h) := rfl
theorem e56_50 : exq sa F N S rt cd56 P Q 50 L st h = (tI st fun v s => lvS L 3 (.int v) fun L' => P 51 L' s h) := rfl
theorem e56_51 : exq sa F N S rt cd56 P Q 51 L st h = (ldI L 4 fun v => lvS L 4 (.int (v + Int32.ofInt (1))) fun L' => P 54 L' st h) := rfl
theorem e56_54 : exq sa F N S rt cd56 P Q 54 L st h = (P 5 L st h) := rfl
theorem e56_57 : exq sa F N S rt cd56 P Q 57 L st h = (ldI L 3 fun v => P 58 L (.int v :: st) h) := rfl
theorem e56_58 : exq sa F N S rt cd56 P Q 58 L st h = (tI st fun v s => s = [] ∧ (rt = some .int ∨ (rt = some .boolean ∧ (v = 0 ∨ v = 1))) ∧ Q (some (.int v)) h) := rfl
theorem e57_0 : exq sa F N S rt cd57 P Q 0 L st h = (ldR L 1 fun v => P 1 L (v :: st) h) := rfl
theorem e57_1 : exq sa F N S rt cd57 P Q 1 L st h = (P 2 L (.int (Int32.ofInt (1)) :: st) h) := rfl
theorem e57_2 : exq sa F N S rt cd57 P Q 2 L st h = (ivV F 22 2 2 st h fun r s h' => P 5 L (pu r s) h') := rfl
theorem e57_5 : exq sa F N S rt cd57 P Q 5 L st h = (tI st fun v s => lvS L 6 (.int v) fun L' => P 7 L' s h) := rfl
theorem e57_7 : exq sa F N S rt cd57 P Q 7 L st h = (P 8 L (.long (Int64.ofInt 0) :: st) h) := rfl
theorem e57_8 : exq sa F N S rt cd57 P Q 8 L st h = (tJ st fun v s => lvS2 L 7 (.long v) fun L' => P 10 L' s h) := rfl
theorem e57_10 : exq sa F N S rt cd57 P Q 10 L st h = (P 11 L (.long (Int64.ofInt 0) :: st) h) := rfl
theorem e57_11 : exq sa F N S rt cd57 P Q 11 L st h = (tJ st fun v s => lvS2 L 9 (.long v) fun L' => P 13 L' s h) := rfl
theorem e57_13 : exq sa F N S rt cd57 P Q 13 L st h = (P 14 L (.int (Int32.ofInt (0)) :: st) h) := rfl
theorem e57_14 : exq sa F N S rt cd57 P Q 14 L st h = (tI st fun v s => lvS L 11 (.int v) fun L' => P 16 L' s h) := rfl
theorem e57_16 : exq sa F N S rt cd57 P Q 16 L st h = (ldI L 11 fun v => P 18 L (.int v :: st) h) := rfl
theorem e57_18 : exq sa F N S rt cd57 P Q 18 L st h = (P 20 L (.int (Int32.ofInt (32)) :: st) h) := rfl
theorem e57_20 : exq sa F N S rt cd57 P Q 20 L st h = (tI st fun b s => tI s fun a s => br (b ≤ a) (P 87 L s h) (P 23 L s h)) := rfl
theorem e57_23 : exq sa F N S rt cd57 P Q 23 L st h = (ldI L 11 fun v => P 25 L (.int v :: st) h) := rfl
theorem e57_25 : exq sa F N S rt cd57 P Q 25 L st h = (ldI L 6 fun v => P 27 L (.int v :: st) h) := rfl
theorem e57_27 : exq sa F N S rt cd57 P Q 27 L st h = (P 28 L (.int (Int32.ofInt (-1)) :: st) h) := rfl
theorem e57_28 : exq sa F N S rt cd57 P Q 28 L st h = (tI st fun b s => tI s fun a s => P 29 L (.int (a ^^^ b) :: s) h) := rfl
theorem e57_29 : exq sa F N S rt cd57 P Q 29 L st h = (tI st fun b s => tI s fun a s => P 30 L (.int (a &&& b) :: s) h) := rfl
theorem e57_30 : exq sa F N S rt cd57 P Q 30 L st h = (tI st fun a s => br (a = 0) (P 33 L s h) (P 81 L s h)) := rfl
theorem e57_33 : exq sa F N S rt cd57 P Q 33 L st h = (ldI L 6 fun v => P 35 L (.int v :: st) h) := rfl
theorem e57_35 : exq sa F N S rt cd57 P Q 35 L st h = (ldI L 11 fun v => P 37 L (.int v :: st) h) := rfl
theorem e57_37 : exq sa F N S rt cd57 P Q 37 L st h = (ldI L 4 fun v => P 39 L (.int v :: st) h) := rfl
theorem e57_39 : exq sa F N S rt cd57 P Q 39 L st h = (ivS F 58 3 st h fun r s h' => P 42 L (pu r s) h') := rfl
theorem e57_42 : exq sa F N S rt cd57 P Q 42 L st h = (tJ st fun v s => lvS2 L 12 (.long v) fun L' => P 44 L' s h) := rfl
theorem e57_44 : exq sa F N S rt cd57 P Q 44 L st h = (ldJ L 9 fun v => P 46 L (.long v :: st) h) := rfl
theorem e57_46 : exq sa F N S rt cd57 P Q 46 L st h = (ldJ L 12 fun v => P 48 L (.long v :: st) h) := rfl
theorem e57_48 : exq sa F N S rt cd57 P Q 48 L st h = (tJ st fun b s => tJ s fun a s => P 49 L (.long (a + b) :: s) h) := rfl
theorem e57_49 : exq sa F N S rt cd57 P Q 49 L st h = (tJ st fun v s => lvS2 L 9 (.long v) fun L' => P 51 L' s h) := rfl
theorem e57_51 : exq sa F N S rt cd57 P Q 51 L st h = (ldJ L 7 fun v => P 53 L (.long v :: st) h) := rfl
theorem e57_53 : exq sa F N S rt cd57 P Q 53 L st h = (ldJ L 12 fun v => P 55 L (.long v :: st) h) := rfl
theorem e57_55 : exq sa F N S rt cd57 P Q 55 L st h = (P 56 L (.long (Int64.ofInt 0) :: st) h) := rfl
theorem e57_56 : exq sa F N S rt cd57 P Q 56 L st h = (tJ st fun b s => tJ s fun a s => P 57 L (.int (lg_cmp a b) :: s) h) := rfl
theorem e57_57 : exq sa F N S rt cd57 P Q 57 L st h = (tI st fun a s => br (a ≤ 0) (P 77 L s h) (P 60 L s h)) := rfl
theorem e57_60 : exq sa F N S rt cd57 P Q 60 L st h = (ldR L 0 fun v => P 61 L (v :: st) h) := rfl
theorem e57_61 : exq sa F N S rt cd57 P Q 61 L st h = (ldR L 1 fun v => P 62 L (v :: st) h) := rfl
theorem e57_62 : exq sa F N S rt cd57 P Q 62 L st h = (ldI L 11 fun v => P 64 L (.int v :: st) h) := rfl
theorem e57_64 : exq sa F N S rt cd57 P Q 64 L st h = (ldI L 2 fun v => P 65 L (.int v :: st) h) := rfl
theorem e57_65 : exq sa F N S rt cd57 P Q 65 L st h = (ldI L 3 fun v => P 66 L (.int v :: st) h) := rfl
theorem e57_66 : exq sa F N S rt cd57 P Q 66 L st h = (ivV F 59 5 3 st h fun r s h' => P 69 L (pu r s) h') := rfl
theorem e57_69 : exq sa F N S rt cd57 P Q 69 L st h = (tI st fun a s => br (a = 0) (P 77 L s h) (P 72 L s h)) := rfl
theorem e57_72 : exq sa F N S rt cd57 P Q 72 L st h = (ldJ L 12 fun v => P 74 L (.long v :: st) h) := rfl
theorem e57_74 : exq sa F N S rt cd57 P Q 74 L st h = (P 78 L st h) := rfl
theorem e57_77 : exq sa F N S rt cd57 P Q 77 L st h = (P 78 L (.long (Int64.ofInt 0) :: st) h) := rfl
theorem e57_78 : exq sa F N S rt cd57 P Q 78 L st h = (tJ st fun b s => tJ s fun a s => P 79 L (.long (a + b) :: s) h) := rfl
theorem e57_79 : exq sa F N S rt cd57 P Q 79 L st h = (tJ st fun v s => lvS2 L 7 (.long v) fun L' => P 81 L' s h) := rfl
theorem e57_81 : exq sa F N S rt cd57 P Q 81 L st h = (ldI L 11 fun v => lvS L 11 (.int (v + Int32.ofInt (1))) fun L' => P 84 L' st h) := rfl
theorem e57_84 : exq sa F N S rt cd57 P Q 84 L st h = (P 16 L st h) := rfl
theorem e57_87 : exq sa F N S rt cd57 P Q 87 L st h = (ldJ L 9 fun v => P 89 L (.long v :: st) h) := rfl
theorem e57_89 : exq sa F N S rt cd57 P Q 89 L st h = (ldJ L 7 fun v => P 91 L (.long v :: st) h) := rfl
theorem e57_91 : exq sa F N S rt cd57 P Q 91 L st h = (ivS F 60 2 st h fun r s h' => P 94 L (pu r s) h') := rfl
theorem e57_94 : exq sa F N S rt cd57 P Q 94 L st h = (tJ st fun v s => lvS2 L 11 (.long v) fun L' => P 96 L' s h) := rfl
theorem e57_96 : exq sa F N S rt cd57 P Q 96 L st h = (ldJ L 11 fun v => P 98 L (.long v :: st) h) := rfl
theorem e57_98 : exq sa F N S rt cd57 P Q 98 L st h = (P 99 L (.long (Int64.ofInt 1) :: st) h) := rfl
theorem e57_99 : exq sa F N S rt cd57 P Q 99 L st h = (tJ st fun b s => tJ s fun a s => P 100 L (.int (lg_cmp a b) :: s) h) := rfl
theorem e57_100 : exq sa F N S rt cd57 P Q 100 L st h = (tI st fun a s => br (0 ≤ a) (P 107 L s h) (P 103 L s h)) := rfl
theorem e57_103 : exq sa F N S rt cd57 P Q 103 L st h = (P 106 L (.long (Int64.ofInt (-1000000)) :: st) h) := rfl
theorem e57_106 : exq sa F N S rt cd57 P Q 106 L st h = (tJ st fun v s => s = [] ∧ rt = some .long ∧ Q (some (.long v)) h) := rfl
theorem e57_107 : exq sa F N S rt cd57 P Q 107 L st h = (ldI L 5 fun v => P 109 L (.int v :: st) h) := rfl
theorem e57_109 : exq sa F N S rt cd57 P Q 109 L st h = (tI st fun a s => br (a = 0) (P 112 L s h) (P 120 L s h)) := rfl
theorem e57_112 : exq sa F N S rt cd57 P Q 112 L st h = (ldJ L 7 fun v => P 114 L (.long v :: st) h) := rfl
theorem e57_114 : exq sa F N S rt cd57 P Q 114 L st h = (ldJ L 11 fun v => P 116 L (.long v :: st) h) := rfl
theorem e57_116 : exq sa F N S rt cd57 P Q 116 L st h = (tJ st fun b s => tJ s fun a s => ¬ b = 0 ∧ P 117 L (.long (a / b) :: s) h) := rfl
theorem e57_117 : exq sa F N S rt cd57 P Q 117 L st h = (P 125 L st h) := rfl
theorem e57_120 : exq sa F N S rt cd57 P Q 120 L st h = (ldJ L 9 fun v => P 122 L (.long v :: st) h) := rfl
theorem e57_122 : exq sa F N S rt cd57 P Q 122 L st h = (ldJ L 11 fun v => P 124 L (.long v :: st) h) := rfl
theorem e57_124 : exq sa F N S rt cd57 P Q 124 L st h = (tJ st fun b s => tJ s fun a s => ¬ b = 0 ∧ P 125 L (.long (a / b) :: s) h) := rfl
theorem e57_125 : exq sa F N S rt cd57 P Q 125 L st h = (tJ st fun v s => s = [] ∧ rt = some .long ∧ Q (some (.long v)) h) := rfl
theorem e58_0 : exq sa F N S rt cd58 P Q 0 L st h = (P 1 L (.long (Int64.ofInt 1) :: st) h) := rfl
theorem e58_1 : exq sa F N S rt cd58 P Q 1 L st h = (tJ st fun v s => lvS2 L 3 (.long v) fun L' => P 2 L' s h) := rfl
theorem e58_2 : exq sa F N S rt cd58 P Q 2 L st h = (P 3 L (.int (Int32.ofInt (0)) :: st) h) := rfl
theorem e58_3 : exq sa F N S rt cd58 P Q 3 L st h = (tI st fun v s => lvS L 5 (.int v) fun L' => P 5 L' s h) := rfl
theorem e58_5 : exq sa F N S rt cd58 P Q 5 L st h = (ldI L 5 fun v => P 7 L (.int v :: st) h) := rfl
theorem e58_7 : exq sa F N S rt cd58 P Q 7 L st h = (P 8 L (.int (Int32.ofInt (5)) :: st) h) := rfl
theorem e58_8 : exq sa F N S rt cd58 P Q 8 L st h = (tI st fun b s => tI s fun a s => br (b ≤ a) (P 50 L s h) (P 11 L s h)) := rfl
theorem e58_11 : exq sa F N S rt cd58 P Q 11 L st h = (ldI L 0 fun v => P 12 L (.int v :: st) h) := rfl
theorem e58_12 : exq sa F N S rt cd58 P Q 12 L st h = (ldI L 5 fun v => P 14 L (.int v :: st) h) := rfl
theorem e58_14 : exq sa F N S rt cd58 P Q 14 L st h = (tI st fun b s => tI s fun a s => P 15 L (.int (a >>> (b &&& 31)) :: s) h) := rfl
theorem e58_15 : exq sa F N S rt cd58 P Q 15 L st h = (P 16 L (.int (Int32.ofInt (1)) :: st) h) := rfl
theorem e58_16 : exq sa F N S rt cd58 P Q 16 L st h = (tI st fun b s => tI s fun a s => P 17 L (.int (a &&& b) :: s) h) := rfl
theorem e58_17 : exq sa F N S rt cd58 P Q 17 L st h = (P 18 L (.int (Int32.ofInt (1)) :: st) h) := rfl
theorem e58_18 : exq sa F N S rt cd58 P Q 18 L st h = (tI st fun b s => tI s fun a s => br (a = b) (P 21 L s h) (P 44 L s h)) := rfl
theorem e58_21 : exq sa F N S rt cd58 P Q 21 L st h = (ldJ L 3 fun v => P 22 L (.long v :: st) h) := rfl
theorem e58_22 : exq sa F N S rt cd58 P Q 22 L st h = (ldI L 1 fun v => P 23 L (.int v :: st) h) := rfl
theorem e58_23 : exq sa F N S rt cd58 P Q 23 L st h = (ldI L 5 fun v => P 25 L (.int v :: st) h) := rfl
theorem e58_25 : exq sa F N S rt cd58 P Q 25 L st h = (tI st fun b s => tI s fun a s => P 26 L (.int (a >>> (b &&& 31)) :: s) h) := rfl
theorem e58_26 : exq sa F N S rt cd58 P Q 26 L st h = (P 27 L (.int (Int32.ofInt (1)) :: st) h) := rfl
theorem e58_27 : exq sa F N S rt cd58 P Q 27 L st h = (tI st fun b s => tI s fun a s => P 28 L (.int (a &&& b) :: s) h) := rfl
theorem e58_28 : exq sa F N S rt cd58 P Q 28 L st h = (P 29 L (.int (Int32.ofInt (1)) :: st) h) := rfl
theorem e58_29 : exq sa F N S rt cd58 P Q 29 L st h = (tI st fun b s => tI s fun a s => br (a = b) (P 32 L s h) (P 37 L s h)) := rfl
theorem e58_32 : exq sa F N S rt cd58 P Q 32 L st h = (ldI L 2 fun v => P 33 L (.int v :: st) h) := rfl
theorem e58_33 : exq sa F N S rt cd58 P Q 33 L st h = (tI st fun a s => P 34 L (.long a.toInt64 :: s) h) := rfl
theorem e58_34 : exq sa F N S rt cd58 P Q 34 L st h = (P 42 L st h) := rfl
theorem e58_37 : exq sa F N S rt cd58 P Q 37 L st h = (P 39 L (.int (Int32.ofInt (10)) :: st) h) := rfl
theorem e58_39 : exq sa F N S rt cd58 P Q 39 L st h = (ldI L 2 fun v => P 40 L (.int v :: st) h) := rfl
theorem e58_40 : exq sa F N S rt cd58 P Q 40 L st h = (tI st fun b s => tI s fun a s => P 41 L (.int (a - b) :: s) h) := rfl
theorem e58_41 : exq sa F N S rt cd58 P Q 41 L st h = (tI st fun a s => P 42 L (.long a.toInt64 :: s) h) := rfl
theorem e58_42 : exq sa F N S rt cd58 P Q 42 L st h = (tJ st fun b s => tJ s fun a s => P 43 L (.long (a * b) :: s) h) := rfl
theorem e58_43 : exq sa F N S rt cd58 P Q 43 L st h = (tJ st fun v s => lvS2 L 3 (.long v) fun L' => P 44 L' s h) := rfl
theorem e58_44 : exq sa F N S rt cd58 P Q 44 L st h = (ldI L 5 fun v => lvS L 5 (.int (v + Int32.ofInt (1))) fun L' => P 47 L' st h) := rfl
theorem e58_47 : exq sa F N S rt cd58 P Q 47 L st h = (P 5 L st h) := rfl
theorem e58_50 : exq sa F N S rt cd58 P Q 50 L st h = (ldJ L 3 fun v => P 51 L (.long v :: st) h) := rfl
theorem e58_51 : exq sa F N S rt cd58 P Q 51 L st h = (tJ st fun v s => s = [] ∧ rt = some .long ∧ Q (some (.long v)) h) := rfl
theorem e59_0 : exq sa F N S rt cd59 P Q 0 L st h = (ldR L 0 fun v => P 1 L (v :: st) h) := rfl
theorem e59_1 : exq sa F N S rt cd59 P Q 1 L st h = (tR st fun a s => opt (hO h a 3) fun fs => opt (fs[0]?) fun v => P 4 L (v :: s) h) := rfl
theorem e59_4 : exq sa F N S rt cd59 P Q 4 L st h = (ldR L 1 fun v => P 5 L (v :: st) h) := rfl
theorem e59_5 : exq sa F N S rt cd59 P Q 5 L st h = (ivV F 15 2 2 st h fun r s h' => P 8 L (pu r s) h') := rfl
theorem e59_8 : exq sa F N S rt cd59 P Q 8 L st h = (ldR L 0 fun v => P 9 L (v :: st) h) := rfl
theorem e59_9 : exq sa F N S rt cd59 P Q 9 L st h = (tR st fun a s => opt (hO h a 3) fun fs => opt (fs[0]?) fun v => P 12 L (v :: s) h) := rfl
theorem e59_12 : exq sa F N S rt cd59 P Q 12 L st h = (ldI L 2 fun v => P 13 L (.int v :: st) h) := rfl
theorem e59_13 : exq sa F N S rt cd59 P Q 13 L st h = (P 14 L (.int (Int32.ofInt (0)) :: st) h) := rfl
theorem e59_14 : exq sa F N S rt cd59 P Q 14 L st h = (ivV F 25 3 2 st h fun r s h' => P 17 L (pu r s) h') := rfl
theorem e59_17 : exq sa F N S rt cd59 P Q 17 L st h = (ldR L 0 fun v => P 18 L (v :: st) h) := rfl
theorem e59_18 : exq sa F N S rt cd59 P Q 18 L st h = (tR st fun a s => opt (hO h a 3) fun fs => opt (fs[0]?) fun v => P 21 L (v :: s) h) := rfl
theorem e59_21 : exq sa F N S rt cd59 P Q 21 L st h = (ldI L 4 fun v => P 23 L (.int v :: st) h) := rfl
theorem e59_23 : exq sa F N S rt cd59 P Q 23 L st h = (ivV F 27 2 2 st h fun r s h' => P 26 L (pu r s) h') := rfl
theorem e59_26 : exq sa F N S rt cd59 P Q 26 L st h = (ldR L 0 fun v => P 27 L (v :: st) h) := rfl
theorem e59_27 : exq sa F N S rt cd59 P Q 27 L st h = (tR st fun a s => opt (hO h a 3) fun fs => opt (fs[0]?) fun v => P 30 L (v :: s) h) := rfl
theorem e59_30 : exq sa F N S rt cd59 P Q 30 L st h = (ldI L 3 fun v => P 31 L (.int v :: st) h) := rfl
theorem e59_31 : exq sa F N S rt cd59 P Q 31 L st h = (ivV F 20 2 2 st h fun r s h' => P 34 L (pu r s) h') := rfl
theorem e59_34 : exq sa F N S rt cd59 P Q 34 L st h = (tI st fun v s => s = [] ∧ (rt = some .int ∨ (rt = some .boolean ∧ (v = 0 ∨ v = 1))) ∧ Q (some (.int v)) h) := rfl
theorem e60_0 : exq sa F N S rt cd60 P Q 0 L st h = (P 1 L (.int (Int32.ofInt (0)) :: st) h) := rfl
theorem e60_1 : exq sa F N S rt cd60 P Q 1 L st h = (tI st fun v s => lvS L 4 (.int v) fun L' => P 3 L' s h) := rfl
theorem e60_3 : exq sa F N S rt cd60 P Q 3 L st h = (ldI L 4 fun v => P 5 L (.int v :: st) h) := rfl
theorem e60_5 : exq sa F N S rt cd60 P Q 5 L st h = (P 7 L (.int (Int32.ofInt (100)) :: st) h) := rfl
theorem e60_7 : exq sa F N S rt cd60 P Q 7 L st h = (tI st fun b s => tI s fun a s => br (b ≤ a) (P 32 L s h) (P 10 L s h)) := rfl
theorem e60_10 : exq sa F N S rt cd60 P Q 10 L st h = (ldJ L 2 fun v => P 11 L (.long v :: st) h) := rfl
theorem e60_11 : exq sa F N S rt cd60 P Q 11 L st h = (P 12 L (.long (Int64.ofInt 0) :: st) h) := rfl
theorem e60_12 : exq sa F N S rt cd60 P Q 12 L st h = (tJ st fun b s => tJ s fun a s => P 13 L (.int (lg_cmp a b) :: s) h) := rfl
theorem e60_13 : exq sa F N S rt cd60 P Q 13 L st h = (tI st fun a s => br (a = 0) (P 32 L s h) (P 16 L s h)) := rfl
theorem e60_16 : exq sa F N S rt cd60 P Q 16 L st h = (ldJ L 0 fun v => P 17 L (.long v :: st) h) := rfl
theorem e60_17 : exq sa F N S rt cd60 P Q 17 L st h = (ldJ L 2 fun v => P 18 L (.long v :: st) h) := rfl
theorem e60_18 : exq sa F N S rt cd60 P Q 18 L st h = (tJ st fun b s => tJ s fun a s => ¬ b = 0 ∧ P 19 L (.long (a - a / b * b) :: s) h) := rfl
theorem e60_19 : exq sa F N S rt cd60 P Q 19 L st h = (tJ st fun v s => lvS2 L 5 (.long v) fun L' => P 21 L' s h) := rfl
theorem e60_21 : exq sa F N S rt cd60 P Q 21 L st h = (ldJ L 2 fun v => P 22 L (.long v :: st) h) := rfl
theorem e60_22 : exq sa F N S rt cd60 P Q 22 L st h = (tJ st fun v s => lvS2 L 0 (.long v) fun L' => P 23 L' s h) := rfl
theorem e60_23 : exq sa F N S rt cd60 P Q 23 L st h = (ldJ L 5 fun v => P 25 L (.long v :: st) h) := rfl
theorem e60_25 : exq sa F N S rt cd60 P Q 25 L st h = (tJ st fun v s => lvS2 L 2 (.long v) fun L' => P 26 L' s h) := rfl
theorem e60_26 : exq sa F N S rt cd60 P Q 26 L st h = (ldI L 4 fun v => lvS L 4 (.int (v + Int32.ofInt (1))) fun L' => P 29 L' st h) := rfl
theorem e60_29 : exq sa F N S rt cd60 P Q 29 L st h = (P 3 L st h) := rfl
theorem e60_32 : exq sa F N S rt cd60 P Q 32 L st h = (ldJ L 0 fun v => P 33 L (.long v :: st) h) := rfl
theorem e60_33 : exq sa F N S rt cd60 P Q 33 L st h = (tJ st fun v s => s = [] ∧ rt = some .long ∧ Q (some (.long v)) h) := rfl
theorem e61_0 : exq sa F N S rt cd61 P Q 0 L st h = (ldI L 3 fun v => P 1 L (.int v :: st) h) := rfl
theorem e61_1 : exq sa F N S rt cd61 P Q 1 L st h = (tI st fun a s => P 2 L (.long a.toInt64 :: s) h) := rfl
theorem e61_2 : exq sa F N S rt cd61 P Q 2 L st h = (tJ st fun v s => lvS2 L 4 (.long v) fun L' => P 4 L' s h) := rfl
theorem e61_4 : exq sa F N S rt cd61 P Q 4 L st h = (ldR L 0 fun v => P 5 L (v :: st) h) := rfl
theorem e61_5 : exq sa F N S rt cd61 P Q 5 L st h = (tR st fun a s => opt (hO h a 3) fun fs => opt (fs[0]?) fun v => P 8 L (v :: s) h) := rfl
theorem e61_8 : exq sa F N S rt cd61 P Q 8 L st h = (ldR L 1 fun v => P 9 L (v :: st) h) := rfl
theorem e61_9 : exq sa F N S rt cd61 P Q 9 L st h = (ivV F 15 2 2 st h fun r s h' => P 12 L (pu r s) h') := rfl
theorem e61_12 : exq sa F N S rt cd61 P Q 12 L st h = (P 13 L (.int (Int32.ofInt (0)) :: st) h) := rfl
theorem e61_13 : exq sa F N S rt cd61 P Q 13 L st h = (tI st fun v s => lvS L 6 (.int v) fun L' => P 15 L' s h) := rfl
theorem e61_15 : exq sa F N S rt cd61 P Q 15 L st h = (ldI L 6 fun v => P 17 L (.int v :: st) h) := rfl
theorem e61_17 : exq sa F N S rt cd61 P Q 17 L st h = (ldI L 2 fun v => P 18 L (.int v :: st) h) := rfl
theorem e61_18 : exq sa F N S rt cd61 P Q 18 L st h = (tI st fun b s => tI s fun a s => br (b ≤ a) (P 53 L s h) (P 21 L s h)) := rfl
theorem e61_21 : exq sa F N S rt cd61 P Q 21 L st h = (ldJ L 4 fun v => P 23 L (.long v :: st) h) := rfl
theorem e61_23 : exq sa F N S rt cd61 P Q 23 L st h = (P 26 L (.long (Int64.ofInt (16807)) :: st) h) := rfl
theorem e61_26 : exq sa F N S rt cd61 P Q 26 L st h = (tJ st fun b s => tJ s fun a s => P 27 L (.long (a * b) :: s) h) := rfl
theorem e61_27 : exq sa F N S rt cd61 P Q 27 L st h = (P 30 L (.long (Int64.ofInt (2147483647)) :: st) h) := rfl
theorem e61_30 : exq sa F N S rt cd61 P Q 30 L st h = (tJ st fun b s => tJ s fun a s => ¬ b = 0 ∧ P 31 L (.long (a - a / b * b) :: s) h) := rfl
theorem e61_31 : exq sa F N S rt cd61 P Q 31 L st h = (tJ st fun v s => lvS2 L 4 (.long v) fun L' => P 33 L' s h) := rfl
theorem e61_33 : exq sa F N S rt cd61 P Q 33 L st h = (ldR L 0 fun v => P 34 L (v :: st) h) := rfl
theorem e61_34 : exq sa F N S rt cd61 P Q 34 L st h = (ldJ L 4 fun v => P 36 L (.long v :: st) h) := rfl
theorem e61_36 : exq sa F N S rt cd61 P Q 36 L st h = (ivV F 62 2 3 st h fun r s h' => P 39 L (pu r s) h') := rfl
theorem e61_39 : exq sa F N S rt cd61 P Q 39 L st h = (ldR L 0 fun v => P 40 L (v :: st) h) := rfl
theorem e61_40 : exq sa F N S rt cd61 P Q 40 L st h = (tR st fun a s => opt (hO h a 3) fun fs => opt (fs[0]?) fun v => P 43 L (v :: s) h) := rfl
theorem e61_43 : exq sa F N S rt cd61 P Q 43 L st h = (P 44 L (.int (Int32.ofInt (1)) :: st) h) := rfl
theorem e61_44 : exq sa F N S rt cd61 P Q 44 L st h = (ivV F 27 2 2 st h fun r s h' => P 47 L (pu r s) h') := rfl
theorem e61_47 : exq sa F N S rt cd61 P Q 47 L st h = (ldI L 6 fun v => lvS L 6 (.int (v + Int32.ofInt (1))) fun L' => P 50 L' st h) := rfl
theorem e61_50 : exq sa F N S rt cd61 P Q 50 L st h = (P 15 L st h) := rfl
theorem e61_53 : exq sa F N S rt cd61 P Q 53 L st h = (ldR L 0 fun v => P 54 L (v :: st) h) := rfl
theorem e61_54 : exq sa F N S rt cd61 P Q 54 L st h = (tR st fun a s => opt (hO h a 3) fun fs => opt (fs[0]?) fun v => P 57 L (v :: s) h) := rfl
theorem e61_57 : exq sa F N S rt cd61 P Q 57 L st h = (tR st fun v s => s = [] ∧ rt = some (.object "HawkAsks$Castle") ∧ Q (some (.ref v)) h) := rfl
theorem e62_0 : exq sa F N S rt cd62 P Q 0 L st h = (ldR L 0 fun v => P 1 L (v :: st) h) := rfl
theorem e62_1 : exq sa F N S rt cd62 P Q 1 L st h = (tR st fun a s => opt (hO h a 3) fun fs => opt (fs[0]?) fun v => P 4 L (v :: s) h) := rfl
theorem e62_4 : exq sa F N S rt cd62 P Q 4 L st h = (tR st fun a s => opt (hO h a 2) fun fs => opt (fs[3]?) fun v => P 7 L (v :: s) h) := rfl
theorem e62_7 : exq sa F N S rt cd62 P Q 7 L st h = (P 8 L (.int (Int32.ofInt (1)) :: st) h) := rfl
theorem e62_8 : exq sa F N S rt cd62 P Q 8 L st h = (tI st fun b s => tI s fun a s => br (b ≤ a) (P 12 L s h) (P 11 L s h)) := rfl
theorem e62_11 : exq sa F N S rt cd62 P Q 11 L st h = (st = [] ∧ rt = none ∧ Q none h) := rfl
theorem e62_12 : exq sa F N S rt cd62 P Q 12 L st h = (ldJ L 1 fun v => P 13 L (.long v :: st) h) := rfl
theorem e62_13 : exq sa F N S rt cd62 P Q 13 L st h = (ldR L 0 fun v => P 14 L (v :: st) h) := rfl
theorem e62_14 : exq sa F N S rt cd62 P Q 14 L st h = (tR st fun a s => opt (hO h a 3) fun fs => opt (fs[0]?) fun v => P 17 L (v :: s) h) := rfl
theorem e62_17 : exq sa F N S rt cd62 P Q 17 L st h = (tR st fun a s => opt (hO h a 2) fun fs => opt (fs[3]?) fun v => P 20 L (v :: s) h) := rfl
theorem e62_20 : exq sa F N S rt cd62 P Q 20 L st h = (tI st fun a s => P 21 L (.long a.toInt64 :: s) h) := rfl
theorem e62_21 : exq sa F N S rt cd62 P Q 21 L st h = (tJ st fun b s => tJ s fun a s => ¬ b = 0 ∧ P 22 L (.long (a - a / b * b) :: s) h) := rfl
theorem e62_22 : exq sa F N S rt cd62 P Q 22 L st h = (tJ st fun a s => P 23 L (.int a.toInt32 :: s) h) := rfl
theorem e62_23 : exq sa F N S rt cd62 P Q 23 L st h = (tI st fun v s => lvS L 3 (.int v) fun L' => P 24 L' s h) := rfl
theorem e62_24 : exq sa F N S rt cd62 P Q 24 L st h = (ldR L 0 fun v => P 25 L (v :: st) h) := rfl
theorem e62_25 : exq sa F N S rt cd62 P Q 25 L st h = (tR st fun a s => opt (hO h a 3) fun fs => opt (fs[0]?) fun v => P 28 L (v :: s) h) := rfl
theorem e62_28 : exq sa F N S rt cd62 P Q 28 L st h = (tR st fun a s => opt (hO h a 2) fun fs => opt (fs[7]?) fun v => P 31 L (v :: s) h) := rfl
theorem e62_31 : exq sa F N S rt cd62 P Q 31 L st h = (ldI L 3 fun v => P 32 L (.int v :: st) h) := rfl
theorem e62_32 : exq sa F N S rt cd62 P Q 32 L st h = (ald sa st h fun v s => P 33 L (.int v :: s) h) := rfl
theorem e62_33 : exq sa F N S rt cd62 P Q 33 L st h = (tI st fun a s => br (a = 0) (P 36 L s h) (P 57 L s h)) := rfl
theorem e62_36 : exq sa F N S rt cd62 P Q 36 L st h = (ldJ L 1 fun v => P 37 L (.long v :: st) h) := rfl
theorem e62_37 : exq sa F N S rt cd62 P Q 37 L st h = (P 40 L (.long (Int64.ofInt (2)) :: st) h) := rfl
theorem e62_40 : exq sa F N S rt cd62 P Q 40 L st h = (tJ st fun b s => tJ s fun a s => ¬ b = 0 ∧ P 41 L (.long (a - a / b * b) :: s) h) := rfl
theorem e62_41 : exq sa F N S rt cd62 P Q 41 L st h = (P 42 L (.long (Int64.ofInt 0) :: st) h) := rfl
theorem e62_42 : exq sa F N S rt cd62 P Q 42 L st h = (tJ st fun b s => tJ s fun a s => P 43 L (.int (lg_cmp a b) :: s) h) := rfl
theorem e62_43 : exq sa F N S rt cd62 P Q 43 L st h = (tI st fun a s => br (a = 0) (P 46 L s h) (P 57 L s h)) := rfl
theorem e62_46 : exq sa F N S rt cd62 P Q 46 L st h = (ldR L 0 fun v => P 47 L (v :: st) h) := rfl
theorem e62_47 : exq sa F N S rt cd62 P Q 47 L st h = (tR st fun a s => opt (hO h a 3) fun fs => opt (fs[0]?) fun v => P 50 L (v :: s) h) := rfl
theorem e62_50 : exq sa F N S rt cd62 P Q 50 L st h = (ldI L 3 fun v => P 51 L (.int v :: st) h) := rfl
theorem e62_51 : exq sa F N S rt cd62 P Q 51 L st h = (ivV F 23 2 2 st h fun r s h' => P 54 L (pu r s) h') := rfl
theorem e62_54 : exq sa F N S rt cd62 P Q 54 L st h = (P 88 L st h) := rfl
theorem e62_57 : exq sa F N S rt cd62 P Q 57 L st h = (ldR L 0 fun v => P 58 L (v :: st) h) := rfl
theorem e62_58 : exq sa F N S rt cd62 P Q 58 L st h = (tR st fun a s => opt (hO h a 3) fun fs => opt (fs[0]?) fun v => P 61 L (v :: s) h) := rfl
theorem e62_61 : exq sa F N S rt cd62 P Q 61 L st h = (tR st fun a s => opt (hO h a 2) fun fs => opt (fs[7]?) fun v => P 64 L (v :: s) h) := rfl
theorem e62_64 : exq sa F N S rt cd62 P Q 64 L st h = (ldI L 3 fun v => P 65 L (.int v :: st) h) := rfl
theorem e62_65 : exq sa F N S rt cd62 P Q 65 L st h = (ald sa st h fun v s => P 66 L (.int v :: s) h) := rfl
theorem e62_66 : exq sa F N S rt cd62 P Q 66 L st h = (P 67 L (.int (Int32.ofInt (1)) :: st) h) := rfl
theorem e62_67 : exq sa F N S rt cd62 P Q 67 L st h = (tI st fun b s => tI s fun a s => br (a = b) (P 70 L s h) (P 88 L s h)) := rfl
theorem e62_70 : exq sa F N S rt cd62 P Q 70 L st h = (ldJ L 1 fun v => P 71 L (.long v :: st) h) := rfl
theorem e62_71 : exq sa F N S rt cd62 P Q 71 L st h = (P 74 L (.long (Int64.ofInt (5)) :: st) h) := rfl
theorem e62_74 : exq sa F N S rt cd62 P Q 74 L st h = (tJ st fun b s => tJ s fun a s => ¬ b = 0 ∧ P 75 L (.long (a - a / b * b) :: s) h) := rfl
theorem e62_75 : exq sa F N S rt cd62 P Q 75 L st h = (P 76 L (.long (Int64.ofInt 0) :: st) h) := rfl
theorem e62_76 : exq sa F N S rt cd62 P Q 76 L st h = (tJ st fun b s => tJ s fun a s => P 77 L (.int (lg_cmp a b) :: s) h) := rfl
theorem e62_77 : exq sa F N S rt cd62 P Q 77 L st h = (tI st fun a s => br (a = 0) (P 80 L s h) (P 88 L s h)) := rfl
theorem e62_80 : exq sa F N S rt cd62 P Q 80 L st h = (ldR L 0 fun v => P 81 L (v :: st) h) := rfl
theorem e62_81 : exq sa F N S rt cd62 P Q 81 L st h = (tR st fun a s => opt (hO h a 3) fun fs => opt (fs[0]?) fun v => P 84 L (v :: s) h) := rfl
theorem e62_84 : exq sa F N S rt cd62 P Q 84 L st h = (ldI L 3 fun v => P 85 L (.int v :: st) h) := rfl
theorem e62_85 : exq sa F N S rt cd62 P Q 85 L st h = (ivV F 24 2 2 st h fun r s h' => P 88 L (pu r s) h') := rfl
theorem e62_88 : exq sa F N S rt cd62 P Q 88 L st h = (st = [] ∧ rt = none ∧ Q none h) := rfl
theorem e63_0 : exq sa F N S rt cd63 P Q 0 L st h = (ldR L 0 fun v => P 1 L (v :: st) h) := rfl
theorem e63_1 : exq sa F N S rt cd63 P Q 1 L st h = (ex1 sa F N S rt P Q 1 L st h (.invokespecial 3) 3 0 1 0) := rfl
theorem e63_4 : exq sa F N S rt cd63 P Q 4 L st h = (ldR L 0 fun v => P 5 L (v :: st) h) := rfl
theorem e63_5 : exq sa F N S rt cd63 P Q 5 L st h = (ex1 sa F N S rt P Q 5 L st h (.new 9) 2 15 0 0) := rfl
theorem e63_8 : exq sa F N S rt cd63 P Q 8 L st h = (du1 st fun v s => P 9 L (v :: v :: s) h) := rfl
theorem e63_9 : exq sa F N S rt cd63 P Q 9 L st h = (ex1 sa F N S rt P Q 9 L st h (.invokespecial 11) 12 11 1 2) := rfl
theorem e63_12 : exq sa F N S rt cd63 P Q 12 L st h = (pfd st h 4 0 2 fun s h' => P 15 L s h') := rfl
theorem e63_15 : exq sa F N S rt cd63 P Q 15 L st h = (ldR L 0 fun v => P 16 L (v :: st) h) := rfl
theorem e63_16 : exq sa F N S rt cd63 P Q 16 L st h = (P 18 L (.int (Int32.ofInt (120)) :: st) h) := rfl
theorem e63_18 : exq sa F N S rt cd63 P Q 18 L st h = (ex1 sa F N S rt P Q 18 L st h (.newarray .int) 0 0 0 0) := rfl
theorem e63_20 : exq sa F N S rt cd63 P Q 20 L st h = (pfd st h 4 1 2 fun s h' => P 23 L s h') := rfl
theorem e63_23 : exq sa F N S rt cd63 P Q 23 L st h = (st = [] ∧ rt = none ∧ Q none h) := rfl
theorem e64_0 : exq sa F N S rt cd64 P Q 0 L st h = (ldR L 0 fun v => P 1 L (v :: st) h) := rfl
theorem e64_1 : exq sa F N S rt cd64 P Q 1 L st h = (tR st fun a s => opt (hO h a 4) fun fs => opt (fs[2]?) fun v => P 4 L (v :: s) h) := rfl
theorem e64_4 : exq sa F N S rt cd64 P Q 4 L st h = (P 6 L (.int (Int32.ofInt (120)) :: st) h) := rfl
theorem e64_6 : exq sa F N S rt cd64 P Q 6 L st h = (tI st fun b s => tI s fun a s => br (a < b) (P 11 L s h) (P 9 L s h)) := rfl
theorem e64_9 : exq sa F N S rt cd64 P Q 9 L st h = (P 10 L (.int (Int32.ofInt (0)) :: st) h) := rfl
theorem e64_10 : exq sa F N S rt cd64 P Q 10 L st h = (tI st fun v s => s = [] ∧ (rt = some .int ∨ (rt = some .boolean ∧ (v = 0 ∨ v = 1))) ∧ Q (some (.int v)) h) := rfl
theorem e64_11 : exq sa F N S rt cd64 P Q 11 L st h = (ldR L 0 fun v => P 12 L (v :: st) h) := rfl
theorem e64_12 : exq sa F N S rt cd64 P Q 12 L st h = (tR st fun a s => opt (hO h a 4) fun fs => opt (fs[1]?) fun v => P 15 L (v :: s) h) := rfl
theorem e64_15 : exq sa F N S rt cd64 P Q 15 L st h = (ldR L 0 fun v => P 16 L (v :: st) h) := rfl
theorem e64_16 : exq sa F N S rt cd64 P Q 16 L st h = (tR st fun a s => opt (hO h a 4) fun fs => opt (fs[2]?) fun v => P 19 L (v :: s) h) := rfl
theorem e64_19 : exq sa F N S rt cd64 P Q 19 L st h = (ldI L 1 fun v => P 20 L (.int v :: st) h) := rfl
theorem e64_20 : exq sa F N S rt cd64 P Q 20 L st h = (tI st fun v s => tI s fun i s => tR s fun a s => opt (hI h a) fun q => ix i q.1 fun k => P 21 L s (hS h a (.inl (0, q.1, .inl (upd q.2 k v))))) := rfl
theorem e64_21 : exq sa F N S rt cd64 P Q 21 L st h = (ldR L 0 fun v => P 22 L (v :: st) h) := rfl
theorem e64_22 : exq sa F N S rt cd64 P Q 22 L st h = (du1 st fun v s => P 23 L (v :: v :: s) h) := rfl
theorem e64_23 : exq sa F N S rt cd64 P Q 23 L st h = (tR st fun a s => opt (hO h a 4) fun fs => opt (fs[2]?) fun v => P 26 L (v :: s) h) := rfl
theorem e64_26 : exq sa F N S rt cd64 P Q 26 L st h = (P 27 L (.int (Int32.ofInt (1)) :: st) h) := rfl
theorem e64_27 : exq sa F N S rt cd64 P Q 27 L st h = (tI st fun b s => tI s fun a s => P 28 L (.int (a + b) :: s) h) := rfl
theorem e64_28 : exq sa F N S rt cd64 P Q 28 L st h = (pfd st h 4 2 0 fun s h' => P 31 L s h') := rfl
theorem e64_31 : exq sa F N S rt cd64 P Q 31 L st h = (P 32 L (.int (Int32.ofInt (1)) :: st) h) := rfl
theorem e64_32 : exq sa F N S rt cd64 P Q 32 L st h = (tI st fun v s => s = [] ∧ (rt = some .int ∨ (rt = some .boolean ∧ (v = 0 ∨ v = 1))) ∧ Q (some (.int v)) h) := rfl
theorem e65_0 : exq sa F N S rt cd65 P Q 0 L st h = (ldR L 0 fun v => P 1 L (v :: st) h) := rfl
theorem e65_1 : exq sa F N S rt cd65 P Q 1 L st h = (P 2 L (.int (Int32.ofInt (0)) :: st) h) := rfl
theorem e65_2 : exq sa F N S rt cd65 P Q 2 L st h = (pfd st h 4 3 0 fun s h' => P 5 L s h') := rfl
theorem e65_5 : exq sa F N S rt cd65 P Q 5 L st h = (ldR L 0 fun v => P 6 L (v :: st) h) := rfl
theorem e65_6 : exq sa F N S rt cd65 P Q 6 L st h = (tR st fun a s => opt (hO h a 4) fun fs => opt (fs[0]?) fun v => P 9 L (v :: s) h) := rfl
theorem e65_9 : exq sa F N S rt cd65 P Q 9 L st h = (ivV F 12 1 2 st h fun r s h' => P 12 L (pu r s) h') := rfl
theorem e65_12 : exq sa F N S rt cd65 P Q 12 L st h = (ldR L 0 fun v => P 13 L (v :: st) h) := rfl
theorem e65_13 : exq sa F N S rt cd65 P Q 13 L st h = (ivV F 66 1 4 st h fun r s h' => P 16 L (pu r s) h') := rfl
theorem e65_16 : exq sa F N S rt cd65 P Q 16 L st h = (tI st fun a s => br (a = 0) (P 37 L s h) (P 19 L s h)) := rfl
theorem e65_19 : exq sa F N S rt cd65 P Q 19 L st h = (ldR L 0 fun v => P 20 L (v :: st) h) := rfl
theorem e65_20 : exq sa F N S rt cd65 P Q 20 L st h = (ivV F 67 1 4 st h fun r s h' => P 23 L (pu r s) h') := rfl
theorem e65_23 : exq sa F N S rt cd65 P Q 23 L st h = (tI st fun a s => br (a = 0) (P 37 L s h) (P 26 L s h)) := rfl
theorem e65_26 : exq sa F N S rt cd65 P Q 26 L st h = (ldR L 0 fun v => P 27 L (v :: st) h) := rfl
theorem e65_27 : exq sa F N S rt cd65 P Q 27 L st h = (ivV F 69 1 4 st h fun r s h' => P 30 L (pu r s) h') := rfl
theorem e65_30 : exq sa F N S rt cd65 P Q 30 L st h = (tI st fun a s => br (a = 0) (P 37 L s h) (P 33 L s h)) := rfl
theorem e65_33 : exq sa F N S rt cd65 P Q 33 L st h = (P 34 L (.int (Int32.ofInt (1)) :: st) h) := rfl
theorem e65_34 : exq sa F N S rt cd65 P Q 34 L st h = (P 38 L st h) := rfl
theorem e65_37 : exq sa F N S rt cd65 P Q 37 L st h = (P 38 L (.int (Int32.ofInt (0)) :: st) h) := rfl
theorem e65_38 : exq sa F N S rt cd65 P Q 38 L st h = (tI st fun v s => s = [] ∧ (rt = some .int ∨ (rt = some .boolean ∧ (v = 0 ∨ v = 1))) ∧ Q (some (.int v)) h) := rfl
theorem e66_0 : exq sa F N S rt cd66 P Q 0 L st h = (ldR L 0 fun v => P 1 L (v :: st) h) := rfl
theorem e66_1 : exq sa F N S rt cd66 P Q 1 L st h = (P 3 L (.int (Int32.ofInt (99)) :: st) h) := rfl
theorem e66_3 : exq sa F N S rt cd66 P Q 3 L st h = (ivV F 71 2 4 st h fun r s h' => P 6 L (pu r s) h') := rfl
theorem e66_6 : exq sa F N S rt cd66 P Q 6 L st h = (tI st fun a s => br (a = 0) (P 19 L s h) (P 9 L s h)) := rfl
theorem e66_9 : exq sa F N S rt cd66 P Q 9 L st h = (ldR L 0 fun v => P 10 L (v :: st) h) := rfl
theorem e66_10 : exq sa F N S rt cd66 P Q 10 L st h = (P 11 L (.int (Int32.ofInt (2)) :: st) h) := rfl
theorem e66_11 : exq sa F N S rt cd66 P Q 11 L st h = (P 13 L (.int (Int32.ofInt (9)) :: st) h) := rfl
theorem e66_13 : exq sa F N S rt cd66 P Q 13 L st h = (ivV F 72 3 4 st h fun r s h' => P 16 L (pu r s) h') := rfl
theorem e66_16 : exq sa F N S rt cd66 P Q 16 L st h = (tI st fun a s => br (a = 0) (P 19 L s h) (P 21 L s h)) := rfl
theorem e66_19 : exq sa F N S rt cd66 P Q 19 L st h = (P 20 L (.int (Int32.ofInt (0)) :: st) h) := rfl
theorem e66_20 : exq sa F N S rt cd66 P Q 20 L st h = (tI st fun v s => s = [] ∧ (rt = some .int ∨ (rt = some .boolean ∧ (v = 0 ∨ v = 1))) ∧ Q (some (.int v)) h) := rfl
theorem e66_21 : exq sa F N S rt cd66 P Q 21 L st h = (ldR L 0 fun v => P 22 L (v :: st) h) := rfl
theorem e66_22 : exq sa F N S rt cd66 P Q 22 L st h = (tR st fun a s => opt (hO h a 4) fun fs => opt (fs[0]?) fun v => P 25 L (v :: s) h) := rfl
theorem e66_25 : exq sa F N S rt cd66 P Q 25 L st h = (ldR L 0 fun v => P 26 L (v :: st) h) := rfl
theorem e66_26 : exq sa F N S rt cd66 P Q 26 L st h = (tR st fun a s => opt (hO h a 4) fun fs => opt (fs[5]?) fun v => P 29 L (v :: s) h) := rfl
theorem e66_29 : exq sa F N S rt cd66 P Q 29 L st h = (pfd st h 2 0 0 fun s h' => P 32 L s h') := rfl
theorem e66_32 : exq sa F N S rt cd66 P Q 32 L st h = (ldR L 0 fun v => P 33 L (v :: st) h) := rfl
theorem e66_33 : exq sa F N S rt cd66 P Q 33 L st h = (P 35 L (.int (Int32.ofInt (44)) :: st) h) := rfl
theorem e66_35 : exq sa F N S rt cd66 P Q 35 L st h = (ivV F 71 2 4 st h fun r s h' => P 38 L (pu r s) h') := rfl
theorem e66_38 : exq sa F N S rt cd66 P Q 38 L st h = (tI st fun a s => br (a = 0) (P 51 L s h) (P 41 L s h)) := rfl
theorem e66_41 : exq sa F N S rt cd66 P Q 41 L st h = (ldR L 0 fun v => P 42 L (v :: st) h) := rfl
theorem e66_42 : exq sa F N S rt cd66 P Q 42 L st h = (P 43 L (.int (Int32.ofInt (1)) :: st) h) := rfl
theorem e66_43 : exq sa F N S rt cd66 P Q 43 L st h = (P 45 L (.int (Int32.ofInt (30)) :: st) h) := rfl
theorem e66_45 : exq sa F N S rt cd66 P Q 45 L st h = (ivV F 72 3 4 st h fun r s h' => P 48 L (pu r s) h') := rfl
theorem e66_48 : exq sa F N S rt cd66 P Q 48 L st h = (tI st fun a s => br (a = 0) (P 51 L s h) (P 53 L s h)) := rfl
theorem e66_51 : exq sa F N S rt cd66 P Q 51 L st h = (P 52 L (.int (Int32.ofInt (0)) :: st) h) := rfl
theorem e66_52 : exq sa F N S rt cd66 P Q 52 L st h = (tI st fun v s => s = [] ∧ (rt = some .int ∨ (rt = some .boolean ∧ (v = 0 ∨ v = 1))) ∧ Q (some (.int v)) h) := rfl
theorem e66_53 : exq sa F N S rt cd66 P Q 53 L st h = (ldR L 0 fun v => P 54 L (v :: st) h) := rfl
theorem e66_54 : exq sa F N S rt cd66 P Q 54 L st h = (tR st fun a s => opt (hO h a 4) fun fs => opt (fs[0]?) fun v => P 57 L (v :: s) h) := rfl
theorem e66_57 : exq sa F N S rt cd66 P Q 57 L st h = (ldR L 0 fun v => P 58 L (v :: st) h) := rfl
theorem e66_58 : exq sa F N S rt cd66 P Q 58 L st h = (tR st fun a s => opt (hO h a 4) fun fs => opt (fs[5]?) fun v => P 61 L (v :: s) h) := rfl
theorem e66_61 : exq sa F N S rt cd66 P Q 61 L st h = (pfd st h 2 1 0 fun s h' => P 64 L s h') := rfl
theorem e66_64 : exq sa F N S rt cd66 P Q 64 L st h = (ldR L 0 fun v => P 65 L (v :: st) h) := rfl
theorem e66_65 : exq sa F N S rt cd66 P Q 65 L st h = (P 67 L (.int (Int32.ofInt (59)) :: st) h) := rfl
theorem e66_67 : exq sa F N S rt cd66 P Q 67 L st h = (ivV F 71 2 4 st h fun r s h' => P 70 L (pu r s) h') := rfl
theorem e66_70 : exq sa F N S rt cd66 P Q 70 L st h = (tI st fun v s => s = [] ∧ (rt = some .int ∨ (rt = some .boolean ∧ (v = 0 ∨ v = 1))) ∧ Q (some (.int v)) h) := rfl
theorem e67_0 : exq sa F N S rt cd67 P Q 0 L st h = (P 1 L (.int (Int32.ofInt (0)) :: st) h) := rfl
theorem e67_1 : exq sa F N S rt cd67 P Q 1 L st h = (tI st fun v s => lvS L 1 (.int v) fun L' => P 2 L' s h) := rfl
theorem e67_2 : exq sa F N S rt cd67 P Q 2 L st h = (ldI L 1 fun v => P 3 L (.int v :: st) h) := rfl
theorem e67_3 : exq sa F N S rt cd67 P Q 3 L st h = (P 5 L (.int (Int32.ofInt (6)) :: st) h) := rfl
theorem e67_5 : exq sa F N S rt cd67 P Q 5 L st h = (tI st fun b s => tI s fun a s => br (b < a) (P 38 L s h) (P 8 L s h)) := rfl
theorem e67_8 : exq sa F N S rt cd67 P Q 8 L st h = (ldI L 1 fun v => P 9 L (.int v :: st) h) := rfl
theorem e67_9 : exq sa F N S rt cd67 P Q 9 L st h = (tI st fun a s => br (a ≤ 0) (P 23 L s h) (P 12 L s h)) := rfl
theorem e67_12 : exq sa F N S rt cd67 P Q 12 L st h = (ldR L 0 fun v => P 13 L (v :: st) h) := rfl
theorem e67_13 : exq sa F N S rt cd67 P Q 13 L st h = (ivV F 74 1 4 st h fun r s h' => P 16 L (pu r s) h') := rfl
theorem e67_16 : exq sa F N S rt cd67 P Q 16 L st h = (P 18 L (.int (Int32.ofInt (113)) :: st) h) := rfl
theorem e67_18 : exq sa F N S rt cd67 P Q 18 L st h = (tI st fun b s => tI s fun a s => br (a = b) (P 23 L s h) (P 21 L s h)) := rfl
theorem e67_21 : exq sa F N S rt cd67 P Q 21 L st h = (P 22 L (.int (Int32.ofInt (1)) :: st) h) := rfl
theorem e67_22 : exq sa F N S rt cd67 P Q 22 L st h = (tI st fun v s => s = [] ∧ (rt = some .int ∨ (rt = some .boolean ∧ (v = 0 ∨ v = 1))) ∧ Q (some (.int v)) h) := rfl
theorem e67_23 : exq sa F N S rt cd67 P Q 23 L st h = (ldR L 0 fun v => P 24 L (v :: st) h) := rfl
theorem e67_24 : exq sa F N S rt cd67 P Q 24 L st h = (ivV F 68 1 4 st h fun r s h' => P 27 L (pu r s) h') := rfl
theorem e67_27 : exq sa F N S rt cd67 P Q 27 L st h = (tI st fun a s => br (a = 0) (P 30 L s h) (P 32 L s h)) := rfl
theorem e67_30 : exq sa F N S rt cd67 P Q 30 L st h = (P 31 L (.int (Int32.ofInt (0)) :: st) h) := rfl
theorem e67_31 : exq sa F N S rt cd67 P Q 31 L st h = (tI st fun v s => s = [] ∧ (rt = some .int ∨ (rt = some .boolean ∧ (v = 0 ∨ v = 1))) ∧ Q (some (.int v)) h) := rfl
theorem e67_32 : exq sa F N S rt cd67 P Q 32 L st h = (ldI L 1 fun v => lvS L 1 (.int (v + Int32.ofInt (1))) fun L' => P 35 L' st h) := rfl
theorem e67_35 : exq sa F N S rt cd67 P Q 35 L st h = (P 2 L st h) := rfl
theorem e67_38 : exq sa F N S rt cd67 P Q 38 L st h = (P 39 L (.int (Int32.ofInt (0)) :: st) h) := rfl
theorem e67_39 : exq sa F N S rt cd67 P Q 39 L st h = (tI st fun v s => s = [] ∧ (rt = some .int ∨ (rt = some .boolean ∧ (v = 0 ∨ v = 1))) ∧ Q (some (.int v)) h) := rfl
theorem e68_0 : exq sa F N S rt cd68 P Q 0 L st h = (ldR L 0 fun v => P 1 L (v :: st) h) := rfl
theorem e68_1 : exq sa F N S rt cd68 P Q 1 L st h = (ivV F 74 1 4 st h fun r s h' => P 4 L (pu r s) h') := rfl
theorem e68_4 : exq sa F N S rt cd68 P Q 4 L st h = (P 6 L (.int (Int32.ofInt (113)) :: st) h) := rfl
theorem e68_6 : exq sa F N S rt cd68 P Q 6 L st h = (tI st fun b s => tI s fun a s => br (a = b) (P 9 L s h) (P 27 L s h)) := rfl
theorem e68_9 : exq sa F N S rt cd68 P Q 9 L st h = (ldR L 0 fun v => P 10 L (v :: st) h) := rfl
theorem e68_10 : exq sa F N S rt cd68 P Q 10 L st h = (tR st fun a s => opt (hO h a 4) fun fs => opt (fs[0]?) fun v => P 13 L (v :: s) h) := rfl
theorem e68_13 : exq sa F N S rt cd68 P Q 13 L st h = (tR st fun a s => opt (hO h a 2) fun fs => opt (fs[9]?) fun v => P 16 L (v :: s) h) := rfl
theorem e68_16 : exq sa F N S rt cd68 P Q 16 L st h = (P 18 L (.int (Int32.ofInt (6)) :: st) h) := rfl
theorem e68_18 : exq sa F N S rt cd68 P Q 18 L st h = (tI st fun b s => tI s fun a s => br (a < b) (P 27 L s h) (P 21 L s h)) := rfl
theorem e68_21 : exq sa F N S rt cd68 P Q 21 L st h = (ldR L 0 fun v => P 22 L (v :: st) h) := rfl
theorem e68_22 : exq sa F N S rt cd68 P Q 22 L st h = (P 23 L (.int (Int32.ofInt (3)) :: st) h) := rfl
theorem e68_23 : exq sa F N S rt cd68 P Q 23 L st h = (ivV F 73 2 4 st h fun r s h' => P 26 L (pu r s) h') := rfl
theorem e68_26 : exq sa F N S rt cd68 P Q 26 L st h = (tI st fun v s => s = [] ∧ (rt = some .int ∨ (rt = some .boolean ∧ (v = 0 ∨ v = 1))) ∧ Q (some (.int v)) h) := rfl
theorem e68_27 : exq sa F N S rt cd68 P Q 27 L st h = (ldR L 0 fun v => P 28 L (v :: st) h) := rfl
theorem e68_28 : exq sa F N S rt cd68 P Q 28 L st h = (P 30 L (.int (Int32.ofInt (113)) :: st) h) := rfl
theorem e68_30 : exq sa F N S rt cd68 P Q 30 L st h = (ivV F 71 2 4 st h fun r s h' => P 33 L (pu r s) h') := rfl
theorem e68_33 : exq sa F N S rt cd68 P Q 33 L st h = (tI st fun a s => br (a = 0) (P 53 L s h) (P 36 L s h)) := rfl
theorem e68_36 : exq sa F N S rt cd68 P Q 36 L st h = (ldR L 0 fun v => P 37 L (v :: st) h) := rfl
theorem e68_37 : exq sa F N S rt cd68 P Q 37 L st h = (P 38 L (.int (Int32.ofInt (0)) :: st) h) := rfl
theorem e68_38 : exq sa F N S rt cd68 P Q 38 L st h = (ldR L 0 fun v => P 39 L (v :: st) h) := rfl
theorem e68_39 : exq sa F N S rt cd68 P Q 39 L st h = (tR st fun a s => opt (hO h a 4) fun fs => opt (fs[0]?) fun v => P 42 L (v :: s) h) := rfl
theorem e68_42 : exq sa F N S rt cd68 P Q 42 L st h = (tR st fun a s => opt (hO h a 2) fun fs => opt (fs[0]?) fun v => P 45 L (v :: s) h) := rfl
theorem e68_45 : exq sa F N S rt cd68 P Q 45 L st h = (P 46 L (.int (Int32.ofInt (1)) :: st) h) := rfl
theorem e68_46 : exq sa F N S rt cd68 P Q 46 L st h = (tI st fun b s => tI s fun a s => P 47 L (.int (a - b) :: s) h) := rfl
theorem e68_47 : exq sa F N S rt cd68 P Q 47 L st h = (ivV F 72 3 4 st h fun r s h' => P 50 L (pu r s) h') := rfl
theorem e68_50 : exq sa F N S rt cd68 P Q 50 L st h = (tI st fun a s => br (a = 0) (P 53 L s h) (P 55 L s h)) := rfl
theorem e68_53 : exq sa F N S rt cd68 P Q 53 L st h = (P 54 L (.int (Int32.ofInt (0)) :: st) h) := rfl
theorem e68_54 : exq sa F N S rt cd68 P Q 54 L st h = (tI st fun v s => s = [] ∧ (rt = some .int ∨ (rt = some .boolean ∧ (v = 0 ∨ v = 1))) ∧ Q (some (.int v)) h) := rfl
theorem e68_55 : exq sa F N S rt cd68 P Q 55 L st h = (ldR L 0 fun v => P 56 L (v :: st) h) := rfl
theorem e68_56 : exq sa F N S rt cd68 P Q 56 L st h = (tR st fun a s => opt (hO h a 4) fun fs => opt (fs[5]?) fun v => P 59 L (v :: s) h) := rfl
theorem e68_59 : exq sa F N S rt cd68 P Q 59 L st h = (tI st fun v s => lvS L 1 (.int v) fun L' => P 60 L' s h) := rfl
theorem e68_60 : exq sa F N S rt cd68 P Q 60 L st h = (ldR L 0 fun v => P 61 L (v :: st) h) := rfl
theorem e68_61 : exq sa F N S rt cd68 P Q 61 L st h = (P 63 L (.int (Int32.ofInt (44)) :: st) h) := rfl
theorem e68_63 : exq sa F N S rt cd68 P Q 63 L st h = (ivV F 71 2 4 st h fun r s h' => P 66 L (pu r s) h') := rfl
theorem e68_66 : exq sa F N S rt cd68 P Q 66 L st h = (tI st fun a s => br (a = 0) (P 79 L s h) (P 69 L s h)) := rfl
theorem e68_69 : exq sa F N S rt cd68 P Q 69 L st h = (ldR L 0 fun v => P 70 L (v :: st) h) := rfl
theorem e68_70 : exq sa F N S rt cd68 P Q 70 L st h = (P 71 L (.int (Int32.ofInt (1)) :: st) h) := rfl
theorem e68_71 : exq sa F N S rt cd68 P Q 71 L st h = (P 73 L (.int (Int32.ofInt (9)) :: st) h) := rfl
theorem e68_73 : exq sa F N S rt cd68 P Q 73 L st h = (ivV F 72 3 4 st h fun r s h' => P 76 L (pu r s) h') := rfl
theorem e68_76 : exq sa F N S rt cd68 P Q 76 L st h = (tI st fun a s => br (a = 0) (P 79 L s h) (P 81 L s h)) := rfl
theorem e68_79 : exq sa F N S rt cd68 P Q 79 L st h = (P 80 L (.int (Int32.ofInt (0)) :: st) h) := rfl
theorem e68_80 : exq sa F N S rt cd68 P Q 80 L st h = (tI st fun v s => s = [] ∧ (rt = some .int ∨ (rt = some .boolean ∧ (v = 0 ∨ v = 1))) ∧ Q (some (.int v)) h) := rfl
theorem e68_81 : exq sa F N S rt cd68 P Q 81 L st h = (ldR L 0 fun v => P 82 L (v :: st) h) := rfl
theorem e68_82 : exq sa F N S rt cd68 P Q 82 L st h = (tR st fun a s => opt (hO h a 4) fun fs => opt (fs[5]?) fun v => P 85 L (v :: s) h) := rfl
theorem e68_85 : exq sa F N S rt cd68 P Q 85 L st h = (tI st fun v s => lvS L 2 (.int v) fun L' => P 86 L' s h) := rfl
theorem e68_86 : exq sa F N S rt cd68 P Q 86 L st h = (ldR L 0 fun v => P 87 L (v :: st) h) := rfl
theorem e68_87 : exq sa F N S rt cd68 P Q 87 L st h = (P 89 L (.int (Int32.ofInt (44)) :: st) h) := rfl
theorem e68_89 : exq sa F N S rt cd68 P Q 89 L st h = (ivV F 71 2 4 st h fun r s h' => P 92 L (pu r s) h') := rfl
theorem e68_92 : exq sa F N S rt cd68 P Q 92 L st h = (tI st fun a s => br (a = 0) (P 104 L s h) (P 95 L s h)) := rfl
theorem e68_95 : exq sa F N S rt cd68 P Q 95 L st h = (ldR L 0 fun v => P 96 L (v :: st) h) := rfl
theorem e68_96 : exq sa F N S rt cd68 P Q 96 L st h = (P 97 L (.int (Int32.ofInt (0)) :: st) h) := rfl
theorem e68_97 : exq sa F N S rt cd68 P Q 97 L st h = (P 98 L (.int (Int32.ofInt (2)) :: st) h) := rfl
theorem e68_98 : exq sa F N S rt cd68 P Q 98 L st h = (ivV F 72 3 4 st h fun r s h' => P 101 L (pu r s) h') := rfl
theorem e68_101 : exq sa F N S rt cd68 P Q 101 L st h = (tI st fun a s => br (a = 0) (P 104 L s h) (P 106 L s h)) := rfl
theorem e68_104 : exq sa F N S rt cd68 P Q 104 L st h = (P 105 L (.int (Int32.ofInt (0)) :: st) h) := rfl
theorem e68_105 : exq sa F N S rt cd68 P Q 105 L st h = (tI st fun v s => s = [] ∧ (rt = some .int ∨ (rt = some .boolean ∧ (v = 0 ∨ v = 1))) ∧ Q (some (.int v)) h) := rfl
theorem e68_106 : exq sa F N S rt cd68 P Q 106 L st h = (ldR L 0 fun v => P 107 L (v :: st) h) := rfl
theorem e68_107 : exq sa F N S rt cd68 P Q 107 L st h = (tR st fun a s => opt (hO h a 4) fun fs => opt (fs[0]?) fun v => P 110 L (v :: s) h) := rfl
theorem e68_110 : exq sa F N S rt cd68 P Q 110 L st h = (ldI L 1 fun v => P 111 L (.int v :: st) h) := rfl
theorem e68_111 : exq sa F N S rt cd68 P Q 111 L st h = (ldI L 2 fun v => P 112 L (.int v :: st) h) := rfl
theorem e68_112 : exq sa F N S rt cd68 P Q 112 L st h = (ldR L 0 fun v => P 113 L (v :: st) h) := rfl
theorem e68_113 : exq sa F N S rt cd68 P Q 113 L st h = (tR st fun a s => opt (hO h a 4) fun fs => opt (fs[5]?) fun v => P 116 L (v :: s) h) := rfl
theorem e68_116 : exq sa F N S rt cd68 P Q 116 L st h = (ivV F 13 4 2 st h fun r s h' => P 119 L (pu r s) h') := rfl
theorem e68_119 : exq sa F N S rt cd68 P Q 119 L st h = (ldR L 0 fun v => P 120 L (v :: st) h) := rfl
theorem e68_120 : exq sa F N S rt cd68 P Q 120 L st h = (P 122 L (.int (Int32.ofInt (59)) :: st) h) := rfl
theorem e68_122 : exq sa F N S rt cd68 P Q 122 L st h = (ivV F 71 2 4 st h fun r s h' => P 125 L (pu r s) h') := rfl
theorem e68_125 : exq sa F N S rt cd68 P Q 125 L st h = (tI st fun v s => s = [] ∧ (rt = some .int ∨ (rt = some .boolean ∧ (v = 0 ∨ v = 1))) ∧ Q (some (.int v)) h) := rfl
theorem e69_0 : exq sa F N S rt cd69 P Q 0 L st h = (P 1 L (.int (Int32.ofInt (0)) :: st) h) := rfl
theorem e69_1 : exq sa F N S rt cd69 P Q 1 L st h = (tI st fun v s => lvS L 1 (.int v) fun L' => P 2 L' s h) := rfl
theorem e69_2 : exq sa F N S rt cd69 P Q 2 L st h = (ldI L 1 fun v => P 3 L (.int v :: st) h) := rfl
theorem e69_3 : exq sa F N S rt cd69 P Q 3 L st h = (P 4 L (.int (Int32.ofInt (5)) :: st) h) := rfl
theorem e69_4 : exq sa F N S rt cd69 P Q 4 L st h = (tI st fun b s => tI s fun a s => br (b < a) (P 39 L s h) (P 7 L s h)) := rfl
theorem e69_7 : exq sa F N S rt cd69 P Q 7 L st h = (ldI L 1 fun v => P 8 L (.int v :: st) h) := rfl
theorem e69_8 : exq sa F N S rt cd69 P Q 8 L st h = (tI st fun a s => br (a ≤ 0) (P 24 L s h) (P 11 L s h)) := rfl
theorem e69_11 : exq sa F N S rt cd69 P Q 11 L st h = (ldR L 0 fun v => P 12 L (v :: st) h) := rfl
theorem e69_12 : exq sa F N S rt cd69 P Q 12 L st h = (tR st fun a s => opt (hO h a 4) fun fs => opt (fs[3]?) fun v => P 15 L (v :: s) h) := rfl
theorem e69_15 : exq sa F N S rt cd69 P Q 15 L st h = (ldR L 0 fun v => P 16 L (v :: st) h) := rfl
theorem e69_16 : exq sa F N S rt cd69 P Q 16 L st h = (tR st fun a s => opt (hO h a 4) fun fs => opt (fs[2]?) fun v => P 19 L (v :: s) h) := rfl
theorem e69_19 : exq sa F N S rt cd69 P Q 19 L st h = (tI st fun b s => tI s fun a s => br (a < b) (P 24 L s h) (P 22 L s h)) := rfl
theorem e69_22 : exq sa F N S rt cd69 P Q 22 L st h = (P 23 L (.int (Int32.ofInt (1)) :: st) h) := rfl
theorem e69_23 : exq sa F N S rt cd69 P Q 23 L st h = (tI st fun v s => s = [] ∧ (rt = some .int ∨ (rt = some .boolean ∧ (v = 0 ∨ v = 1))) ∧ Q (some (.int v)) h) := rfl
theorem e69_24 : exq sa F N S rt cd69 P Q 24 L st h = (ldR L 0 fun v => P 25 L (v :: st) h) := rfl
theorem e69_25 : exq sa F N S rt cd69 P Q 25 L st h = (ivV F 70 1 4 st h fun r s h' => P 28 L (pu r s) h') := rfl
theorem e69_28 : exq sa F N S rt cd69 P Q 28 L st h = (tI st fun a s => br (a = 0) (P 31 L s h) (P 33 L s h)) := rfl
theorem e69_31 : exq sa F N S rt cd69 P Q 31 L st h = (P 32 L (.int (Int32.ofInt (0)) :: st) h) := rfl
theorem e69_32 : exq sa F N S rt cd69 P Q 32 L st h = (tI st fun v s => s = [] ∧ (rt = some .int ∨ (rt = some .boolean ∧ (v = 0 ∨ v = 1))) ∧ Q (some (.int v)) h) := rfl
theorem e69_33 : exq sa F N S rt cd69 P Q 33 L st h = (ldI L 1 fun v => lvS L 1 (.int (v + Int32.ofInt (1))) fun L' => P 36 L' st h) := rfl
theorem e69_36 : exq sa F N S rt cd69 P Q 36 L st h = (P 2 L st h) := rfl
theorem e69_39 : exq sa F N S rt cd69 P Q 39 L st h = (P 40 L (.int (Int32.ofInt (0)) :: st) h) := rfl
theorem e69_40 : exq sa F N S rt cd69 P Q 40 L st h = (tI st fun v s => s = [] ∧ (rt = some .int ∨ (rt = some .boolean ∧ (v = 0 ∨ v = 1))) ∧ Q (some (.int v)) h) := rfl
theorem e70_0 : exq sa F N S rt cd70 P Q 0 L st h = (ldR L 0 fun v => P 1 L (v :: st) h) := rfl
theorem e70_1 : exq sa F N S rt cd70 P Q 1 L st h = (ivV F 74 1 4 st h fun r s h' => P 4 L (pu r s) h') := rfl
theorem e70_4 : exq sa F N S rt cd70 P Q 4 L st h = (ivS F 77 1 st h fun r s h' => P 7 L (pu r s) h') := rfl
theorem e70_7 : exq sa F N S rt cd70 P Q 7 L st h = (tI st fun v s => lvS L 1 (.int v) fun L' => P 8 L' s h) := rfl
theorem e70_8 : exq sa F N S rt cd70 P Q 8 L st h = (ldI L 1 fun v => P 9 L (.int v :: st) h) := rfl
theorem e70_9 : exq sa F N S rt cd70 P Q 9 L st h = (tI st fun a s => br (a = 0) (P 12 L s h) (P 18 L s h)) := rfl
theorem e70_12 : exq sa F N S rt cd70 P Q 12 L st h = (ldR L 0 fun v => P 13 L (v :: st) h) := rfl
theorem e70_13 : exq sa F N S rt cd70 P Q 13 L st h = (P 14 L (.int (Int32.ofInt (1)) :: st) h) := rfl
theorem e70_14 : exq sa F N S rt cd70 P Q 14 L st h = (ivV F 73 2 4 st h fun r s h' => P 17 L (pu r s) h') := rfl
theorem e70_17 : exq sa F N S rt cd70 P Q 17 L st h = (tI st fun v s => s = [] ∧ (rt = some .int ∨ (rt = some .boolean ∧ (v = 0 ∨ v = 1))) ∧ Q (some (.int v)) h) := rfl
theorem e70_18 : exq sa F N S rt cd70 P Q 18 L st h = (ldR L 0 fun v => P 19 L (v :: st) h) := rfl
theorem e70_19 : exq sa F N S rt cd70 P Q 19 L st h = (tR st fun a s => opt (hO h a 4) fun fs => opt (fs[0]?) fun v => P 22 L (v :: s) h) := rfl
theorem e70_22 : exq sa F N S rt cd70 P Q 22 L st h = (tR st fun a s => opt (hO h a 2) fun fs => opt (fs[3]?) fun v => P 25 L (v :: s) h) := rfl
theorem e70_25 : exq sa F N S rt cd70 P Q 25 L st h = (P 26 L (.int (Int32.ofInt (5)) :: st) h) := rfl
theorem e70_26 : exq sa F N S rt cd70 P Q 26 L st h = (tI st fun b s => tI s fun a s => br (a < b) (P 35 L s h) (P 29 L s h)) := rfl
theorem e70_29 : exq sa F N S rt cd70 P Q 29 L st h = (ldR L 0 fun v => P 30 L (v :: st) h) := rfl
theorem e70_30 : exq sa F N S rt cd70 P Q 30 L st h = (P 31 L (.int (Int32.ofInt (3)) :: st) h) := rfl
theorem e70_31 : exq sa F N S rt cd70 P Q 31 L st h = (ivV F 73 2 4 st h fun r s h' => P 34 L (pu r s) h') := rfl
theorem e70_34 : exq sa F N S rt cd70 P Q 34 L st h = (tI st fun v s => s = [] ∧ (rt = some .int ∨ (rt = some .boolean ∧ (v = 0 ∨ v = 1))) ∧ Q (some (.int v)) h) := rfl
theorem e70_35 : exq sa F N S rt cd70 P Q 35 L st h = (ldR L 0 fun v => P 36 L (v :: st) h) := rfl
theorem e70_36 : exq sa F N S rt cd70 P Q 36 L st h = (du1 st fun v s => P 37 L (v :: v :: s) h) := rfl
theorem e70_37 : exq sa F N S rt cd70 P Q 37 L st h = (tR st fun a s => opt (hO h a 4) fun fs => opt (fs[3]?) fun v => P 40 L (v :: s) h) := rfl
theorem e70_40 : exq sa F N S rt cd70 P Q 40 L st h = (P 41 L (.int (Int32.ofInt (1)) :: st) h) := rfl
theorem e70_41 : exq sa F N S rt cd70 P Q 41 L st h = (tI st fun b s => tI s fun a s => P 42 L (.int (a + b) :: s) h) := rfl
theorem e70_42 : exq sa F N S rt cd70 P Q 42 L st h = (pfd st h 4 3 0 fun s h' => P 45 L s h') := rfl
theorem e70_45 : exq sa F N S rt cd70 P Q 45 L st h = (ldR L 0 fun v => P 46 L (v :: st) h) := rfl
theorem e70_46 : exq sa F N S rt cd70 P Q 46 L st h = (P 47 L (.int (Int32.ofInt (0)) :: st) h) := rfl
theorem e70_47 : exq sa F N S rt cd70 P Q 47 L st h = (P 49 L (.int (Int32.ofInt (9)) :: st) h) := rfl
theorem e70_49 : exq sa F N S rt cd70 P Q 49 L st h = (ivV F 72 3 4 st h fun r s h' => P 52 L (pu r s) h') := rfl
theorem e70_52 : exq sa F N S rt cd70 P Q 52 L st h = (tI st fun a s => br (a = 0) (P 55 L s h) (P 57 L s h)) := rfl
theorem e70_55 : exq sa F N S rt cd70 P Q 55 L st h = (P 56 L (.int (Int32.ofInt (0)) :: st) h) := rfl
theorem e70_56 : exq sa F N S rt cd70 P Q 56 L st h = (tI st fun v s => s = [] ∧ (rt = some .int ∨ (rt = some .boolean ∧ (v = 0 ∨ v = 1))) ∧ Q (some (.int v)) h) := rfl
theorem e70_57 : exq sa F N S rt cd70 P Q 57 L st h = (ldR L 0 fun v => P 58 L (v :: st) h) := rfl
theorem e70_58 : exq sa F N S rt cd70 P Q 58 L st h = (tR st fun a s => opt (hO h a 4) fun fs => opt (fs[0]?) fun v => P 61 L (v :: s) h) := rfl
theorem e70_61 : exq sa F N S rt cd70 P Q 61 L st h = (ldI L 1 fun v => P 62 L (.int v :: st) h) := rfl
theorem e70_62 : exq sa F N S rt cd70 P Q 62 L st h = (ldR L 0 fun v => P 63 L (v :: st) h) := rfl
theorem e70_63 : exq sa F N S rt cd70 P Q 63 L st h = (tR st fun a s => opt (hO h a 4) fun fs => opt (fs[5]?) fun v => P 66 L (v :: s) h) := rfl
theorem e70_66 : exq sa F N S rt cd70 P Q 66 L st h = (ivV F 14 3 2 st h fun r s h' => P 69 L (pu r s) h') := rfl
theorem e70_69 : exq sa F N S rt cd70 P Q 69 L st h = (ldR L 0 fun v => P 70 L (v :: st) h) := rfl
theorem e70_70 : exq sa F N S rt cd70 P Q 70 L st h = (P 72 L (.int (Int32.ofInt (59)) :: st) h) := rfl
theorem e70_72 : exq sa F N S rt cd70 P Q 72 L st h = (ivV F 71 2 4 st h fun r s h' => P 75 L (pu r s) h') := rfl
theorem e70_75 : exq sa F N S rt cd70 P Q 75 L st h = (tI st fun v s => s = [] ∧ (rt = some .int ∨ (rt = some .boolean ∧ (v = 0 ∨ v = 1))) ∧ Q (some (.int v)) h) := rfl
theorem e71_0 : exq sa F N S rt cd71 P Q 0 L st h = (ldR L 0 fun v => P 1 L (v :: st) h) := rfl
theorem e71_1 : exq sa F N S rt cd71 P Q 1 L st h = (ivV F 74 1 4 st h fun r s h' => P 4 L (pu r s) h') := rfl
theorem e71_4 : exq sa F N S rt cd71 P Q 4 L st h = (ldI L 1 fun v => P 5 L (.int v :: st) h) := rfl
theorem e71_5 : exq sa F N S rt cd71 P Q 5 L st h = (tI st fun b s => tI s fun a s => br (a = b) (P 14 L s h) (P 8 L s h)) := rfl
theorem e71_8 : exq sa F N S rt cd71 P Q 8 L st h = (ldR L 0 fun v => P 9 L (v :: st) h) := rfl
theorem e71_9 : exq sa F N S rt cd71 P Q 9 L st h = (P 10 L (.int (Int32.ofInt (1)) :: st) h) := rfl
theorem e71_10 : exq sa F N S rt cd71 P Q 10 L st h = (ivV F 73 2 4 st h fun r s h' => P 13 L (pu r s) h') := rfl
theorem e71_13 : exq sa F N S rt cd71 P Q 13 L st h = (tI st fun v s => s = [] ∧ (rt = some .int ∨ (rt = some .boolean ∧ (v = 0 ∨ v = 1))) ∧ Q (some (.int v)) h) := rfl
theorem e71_14 : exq sa F N S rt cd71 P Q 14 L st h = (ldR L 0 fun v => P 15 L (v :: st) h) := rfl
theorem e71_15 : exq sa F N S rt cd71 P Q 15 L st h = (du1 st fun v s => P 16 L (v :: v :: s) h) := rfl
theorem e71_16 : exq sa F N S rt cd71 P Q 16 L st h = (tR st fun a s => opt (hO h a 4) fun fs => opt (fs[3]?) fun v => P 19 L (v :: s) h) := rfl
theorem e71_19 : exq sa F N S rt cd71 P Q 19 L st h = (P 20 L (.int (Int32.ofInt (1)) :: st) h) := rfl
theorem e71_20 : exq sa F N S rt cd71 P Q 20 L st h = (tI st fun b s => tI s fun a s => P 21 L (.int (a + b) :: s) h) := rfl
theorem e71_21 : exq sa F N S rt cd71 P Q 21 L st h = (pfd st h 4 3 0 fun s h' => P 24 L s h') := rfl
theorem e71_24 : exq sa F N S rt cd71 P Q 24 L st h = (P 25 L (.int (Int32.ofInt (1)) :: st) h) := rfl
theorem e71_25 : exq sa F N S rt cd71 P Q 25 L st h = (tI st fun v s => s = [] ∧ (rt = some .int ∨ (rt = some .boolean ∧ (v = 0 ∨ v = 1))) ∧ Q (some (.int v)) h) := rfl
theorem e72_0 : exq sa F N S rt cd72 P Q 0 L st h = (P 1 L (.int (Int32.ofInt (0)) :: st) h) := rfl
theorem e72_1 : exq sa F N S rt cd72 P Q 1 L st h = (tI st fun v s => lvS L 3 (.int v) fun L' => P 2 L' s h) := rfl
theorem e72_2 : exq sa F N S rt cd72 P Q 2 L st h = (ldR L 0 fun v => P 3 L (v :: st) h) := rfl
theorem e72_3 : exq sa F N S rt cd72 P Q 3 L st h = (P 4 L (.int (Int32.ofInt (0)) :: st) h) := rfl
theorem e72_4 : exq sa F N S rt cd72 P Q 4 L st h = (pfd st h 4 5 0 fun s h' => P 7 L s h') := rfl
theorem e72_7 : exq sa F N S rt cd72 P Q 7 L st h = (ldI L 3 fun v => P 8 L (.int v :: st) h) := rfl
theorem e72_8 : exq sa F N S rt cd72 P Q 8 L st h = (P 9 L (.int (Int32.ofInt (3)) :: st) h) := rfl
theorem e72_9 : exq sa F N S rt cd72 P Q 9 L st h = (tI st fun b s => tI s fun a s => br (b ≤ a) (P 59 L s h) (P 12 L s h)) := rfl
theorem e72_12 : exq sa F N S rt cd72 P Q 12 L st h = (ldR L 0 fun v => P 13 L (v :: st) h) := rfl
theorem e72_13 : exq sa F N S rt cd72 P Q 13 L st h = (ldR L 0 fun v => P 14 L (v :: st) h) := rfl
theorem e72_14 : exq sa F N S rt cd72 P Q 14 L st h = (tR st fun a s => opt (hO h a 4) fun fs => opt (fs[3]?) fun v => P 17 L (v :: s) h) := rfl
theorem e72_17 : exq sa F N S rt cd72 P Q 17 L st h = (ldI L 3 fun v => P 18 L (.int v :: st) h) := rfl
theorem e72_18 : exq sa F N S rt cd72 P Q 18 L st h = (tI st fun b s => tI s fun a s => P 19 L (.int (a + b) :: s) h) := rfl
theorem e72_19 : exq sa F N S rt cd72 P Q 19 L st h = (ivV F 75 2 4 st h fun r s h' => P 22 L (pu r s) h') := rfl
theorem e72_22 : exq sa F N S rt cd72 P Q 22 L st h = (ivS F 76 1 st h fun r s h' => P 25 L (pu r s) h') := rfl
theorem e72_25 : exq sa F N S rt cd72 P Q 25 L st h = (tI st fun a s => br (a = 0) (P 59 L s h) (P 28 L s h)) := rfl
theorem e72_28 : exq sa F N S rt cd72 P Q 28 L st h = (ldR L 0 fun v => P 29 L (v :: st) h) := rfl
theorem e72_29 : exq sa F N S rt cd72 P Q 29 L st h = (ldR L 0 fun v => P 30 L (v :: st) h) := rfl
theorem e72_30 : exq sa F N S rt cd72 P Q 30 L st h = (tR st fun a s => opt (hO h a 4) fun fs => opt (fs[5]?) fun v => P 33 L (v :: s) h) := rfl
theorem e72_33 : exq sa F N S rt cd72 P Q 33 L st h = (P 35 L (.int (Int32.ofInt (10)) :: st) h) := rfl
theorem e72_35 : exq sa F N S rt cd72 P Q 35 L st h = (tI st fun b s => tI s fun a s => P 36 L (.int (a * b) :: s) h) := rfl
theorem e72_36 : exq sa F N S rt cd72 P Q 36 L st h = (ldR L 0 fun v => P 37 L (v :: st) h) := rfl
theorem e72_37 : exq sa F N S rt cd72 P Q 37 L st h = (ldR L 0 fun v => P 38 L (v :: st) h) := rfl
theorem e72_38 : exq sa F N S rt cd72 P Q 38 L st h = (tR st fun a s => opt (hO h a 4) fun fs => opt (fs[3]?) fun v => P 41 L (v :: s) h) := rfl
theorem e72_41 : exq sa F N S rt cd72 P Q 41 L st h = (ldI L 3 fun v => P 42 L (.int v :: st) h) := rfl
theorem e72_42 : exq sa F N S rt cd72 P Q 42 L st h = (tI st fun b s => tI s fun a s => P 43 L (.int (a + b) :: s) h) := rfl
theorem e72_43 : exq sa F N S rt cd72 P Q 43 L st h = (ivV F 75 2 4 st h fun r s h' => P 46 L (pu r s) h') := rfl
theorem e72_46 : exq sa F N S rt cd72 P Q 46 L st h = (tI st fun b s => tI s fun a s => P 47 L (.int (a + b) :: s) h) := rfl
theorem e72_47 : exq sa F N S rt cd72 P Q 47 L st h = (P 49 L (.int (Int32.ofInt (48)) :: st) h) := rfl
theorem e72_49 : exq sa F N S rt cd72 P Q 49 L st h = (tI st fun b s => tI s fun a s => P 50 L (.int (a - b) :: s) h) := rfl
theorem e72_50 : exq sa F N S rt cd72 P Q 50 L st h = (pfd st h 4 5 0 fun s h' => P 53 L s h') := rfl
theorem e72_53 : exq sa F N S rt cd72 P Q 53 L st h = (ldI L 3 fun v => lvS L 3 (.int (v + Int32.ofInt (1))) fun L' => P 56 L' st h) := rfl
theorem e72_56 : exq sa F N S rt cd72 P Q 56 L st h = (P 7 L st h) := rfl
theorem e72_59 : exq sa F N S rt cd72 P Q 59 L st h = (ldI L 3 fun v => P 60 L (.int v :: st) h) := rfl
theorem e72_60 : exq sa F N S rt cd72 P Q 60 L st h = (P 61 L (.int (Int32.ofInt (1)) :: st) h) := rfl
theorem e72_61 : exq sa F N S rt cd72 P Q 61 L st h = (P 62 L (.int (Int32.ofInt (2)) :: st) h) := rfl
theorem e72_62 : exq sa F N S rt cd72 P Q 62 L st h = (ivS F 131 3 st h fun r s h' => P 65 L (pu r s) h') := rfl
theorem e72_65 : exq sa F N S rt cd72 P Q 65 L st h = (tI st fun a s => br (a = 0) (P 68 L s h) (P 74 L s h)) := rfl
theorem e72_68 : exq sa F N S rt cd72 P Q 68 L st h = (ldR L 0 fun v => P 69 L (v :: st) h) := rfl
theorem e72_69 : exq sa F N S rt cd72 P Q 69 L st h = (P 70 L (.int (Int32.ofInt (1)) :: st) h) := rfl
theorem e72_70 : exq sa F N S rt cd72 P Q 70 L st h = (ivV F 73 2 4 st h fun r s h' => P 73 L (pu r s) h') := rfl
theorem e72_73 : exq sa F N S rt cd72 P Q 73 L st h = (tI st fun v s => s = [] ∧ (rt = some .int ∨ (rt = some .boolean ∧ (v = 0 ∨ v = 1))) ∧ Q (some (.int v)) h) := rfl
theorem e72_74 : exq sa F N S rt cd72 P Q 74 L st h = (ldR L 0 fun v => P 75 L (v :: st) h) := rfl
theorem e72_75 : exq sa F N S rt cd72 P Q 75 L st h = (tR st fun a s => opt (hO h a 4) fun fs => opt (fs[5]?) fun v => P 78 L (v :: s) h) := rfl
theorem e72_78 : exq sa F N S rt cd72 P Q 78 L st h = (ldI L 1 fun v => P 79 L (.int v :: st) h) := rfl
theorem e72_79 : exq sa F N S rt cd72 P Q 79 L st h = (ldI L 2 fun v => P 80 L (.int v :: st) h) := rfl
theorem e72_80 : exq sa F N S rt cd72 P Q 80 L st h = (ivS F 131 3 st h fun r s h' => P 83 L (pu r s) h') := rfl
theorem e72_83 : exq sa F N S rt cd72 P Q 83 L st h = (tI st fun a s => br (a = 0) (P 86 L s h) (P 92 L s h)) := rfl
theorem e72_86 : exq sa F N S rt cd72 P Q 86 L st h = (ldR L 0 fun v => P 87 L (v :: st) h) := rfl
theorem e72_87 : exq sa F N S rt cd72 P Q 87 L st h = (P 88 L (.int (Int32.ofInt (2)) :: st) h) := rfl
theorem e72_88 : exq sa F N S rt cd72 P Q 88 L st h = (ivV F 73 2 4 st h fun r s h' => P 91 L (pu r s) h') := rfl
theorem e72_91 : exq sa F N S rt cd72 P Q 91 L st h = (tI st fun v s => s = [] ∧ (rt = some .int ∨ (rt = some .boolean ∧ (v = 0 ∨ v = 1))) ∧ Q (some (.int v)) h) := rfl
theorem e72_92 : exq sa F N S rt cd72 P Q 92 L st h = (ldR L 0 fun v => P 93 L (v :: st) h) := rfl
theorem e72_93 : exq sa F N S rt cd72 P Q 93 L st h = (du1 st fun v s => P 94 L (v :: v :: s) h) := rfl
theorem e72_94 : exq sa F N S rt cd72 P Q 94 L st h = (tR st fun a s => opt (hO h a 4) fun fs => opt (fs[3]?) fun v => P 97 L (v :: s) h) := rfl
theorem e72_97 : exq sa F N S rt cd72 P Q 97 L st h = (ldI L 3 fun v => P 98 L (.int v :: st) h) := rfl
theorem e72_98 : exq sa F N S rt cd72 P Q 98 L st h = (tI st fun b s => tI s fun a s => P 99 L (.int (a + b) :: s) h) := rfl
theorem e72_99 : exq sa F N S rt cd72 P Q 99 L st h = (pfd st h 4 3 0 fun s h' => P 102 L s h') := rfl
theorem e72_102 : exq sa F N S rt cd72 P Q 102 L st h = (P 103 L (.int (Int32.ofInt (1)) :: st) h) := rfl
theorem e72_103 : exq sa F N S rt cd72 P Q 103 L st h = (tI st fun v s => s = [] ∧ (rt = some .int ∨ (rt = some .boolean ∧ (v = 0 ∨ v = 1))) ∧ Q (some (.int v)) h) := rfl
theorem e73_0 : exq sa F N S rt cd73 P Q 0 L st h = (ldR L 0 fun v => P 1 L (v :: st) h) := rfl
theorem e73_1 : exq sa F N S rt cd73 P Q 1 L st h = (ldI L 1 fun v => P 2 L (.int v :: st) h) := rfl
theorem e73_2 : exq sa F N S rt cd73 P Q 2 L st h = (pfd st h 4 4 0 fun s h' => P 5 L s h') := rfl
theorem e73_5 : exq sa F N S rt cd73 P Q 5 L st h = (P 6 L (.int (Int32.ofInt (0)) :: st) h) := rfl
theorem e73_6 : exq sa F N S rt cd73 P Q 6 L st h = (tI st fun v s => s = [] ∧ (rt = some .int ∨ (rt = some .boolean ∧ (v = 0 ∨ v = 1))) ∧ Q (some (.int v)) h) := rfl
theorem e74_0 : exq sa F N S rt cd74 P Q 0 L st h = (ldR L 0 fun v => P 1 L (v :: st) h) := rfl
theorem e74_1 : exq sa F N S rt cd74 P Q 1 L st h = (ldR L 0 fun v => P 2 L (v :: st) h) := rfl
theorem e74_2 : exq sa F N S rt cd74 P Q 2 L st h = (tR st fun a s => opt (hO h a 4) fun fs => opt (fs[3]?) fun v => P 5 L (v :: s) h) := rfl
theorem e74_5 : exq sa F N S rt cd74 P Q 5 L st h = (ivV F 75 2 4 st h fun r s h' => P 8 L (pu r s) h') := rfl
theorem e74_8 : exq sa F N S rt cd74 P Q 8 L st h = (tI st fun v s => s = [] ∧ (rt = some .int ∨ (rt = some .boolean ∧ (v = 0 ∨ v = 1))) ∧ Q (some (.int v)) h) := rfl
theorem e75_0 : exq sa F N S rt cd75 P Q 0 L st h = (ldI L 1 fun v => P 1 L (.int v :: st) h) := rfl
theorem e75_1 : exq sa F N S rt cd75 P Q 1 L st h = (P 2 L (.int (Int32.ofInt (0)) :: st) h) := rfl
theorem e75_2 : exq sa F N S rt cd75 P Q 2 L st h = (ldR L 0 fun v => P 3 L (v :: st) h) := rfl
theorem e75_3 : exq sa F N S rt cd75 P Q 3 L st h = (tR st fun a s => opt (hO h a 4) fun fs => opt (fs[2]?) fun v => P 6 L (v :: s) h) := rfl
theorem e75_6 : exq sa F N S rt cd75 P Q 6 L st h = (P 7 L (.int (Int32.ofInt (1)) :: st) h) := rfl
theorem e75_7 : exq sa F N S rt cd75 P Q 7 L st h = (tI st fun b s => tI s fun a s => P 8 L (.int (a - b) :: s) h) := rfl
theorem e75_8 : exq sa F N S rt cd75 P Q 8 L st h = (ivS F 131 3 st h fun r s h' => P 11 L (pu r s) h') := rfl
theorem e75_11 : exq sa F N S rt cd75 P Q 11 L st h = (tI st fun a s => br (a = 0) (P 23 L s h) (P 14 L s h)) := rfl
theorem e75_14 : exq sa F N S rt cd75 P Q 14 L st h = (ldR L 0 fun v => P 15 L (v :: st) h) := rfl
theorem e75_15 : exq sa F N S rt cd75 P Q 15 L st h = (tR st fun a s => opt (hO h a 4) fun fs => opt (fs[1]?) fun v => P 18 L (v :: s) h) := rfl
theorem e75_18 : exq sa F N S rt cd75 P Q 18 L st h = (ldI L 1 fun v => P 19 L (.int v :: st) h) := rfl
theorem e75_19 : exq sa F N S rt cd75 P Q 19 L st h = (ald sa st h fun v s => P 20 L (.int v :: s) h) := rfl
theorem e75_20 : exq sa F N S rt cd75 P Q 20 L st h = (P 25 L st h) := rfl
theorem e75_23 : exq sa F N S rt cd75 P Q 23 L st h = (P 25 L (.int (Int32.ofInt (-1000000)) :: st) h) := rfl
theorem e75_25 : exq sa F N S rt cd75 P Q 25 L st h = (tI st fun v s => s = [] ∧ (rt = some .int ∨ (rt = some .boolean ∧ (v = 0 ∨ v = 1))) ∧ Q (some (.int v)) h) := rfl
theorem e76_0 : exq sa F N S rt cd76 P Q 0 L st h = (ldI L 0 fun v => P 1 L (.int v :: st) h) := rfl
theorem e76_1 : exq sa F N S rt cd76 P Q 1 L st h = (P 3 L (.int (Int32.ofInt (48)) :: st) h) := rfl
theorem e76_3 : exq sa F N S rt cd76 P Q 3 L st h = (P 5 L (.int (Int32.ofInt (57)) :: st) h) := rfl
theorem e76_5 : exq sa F N S rt cd76 P Q 5 L st h = (ivS F 131 3 st h fun r s h' => P 8 L (pu r s) h') := rfl
theorem e76_8 : exq sa F N S rt cd76 P Q 8 L st h = (tI st fun v s => s = [] ∧ (rt = some .int ∨ (rt = some .boolean ∧ (v = 0 ∨ v = 1))) ∧ Q (some (.int v)) h) := rfl
theorem e77_0 : exq sa F N S rt cd77 P Q 0 L st h = (ldI L 0 fun v => P 1 L (.int v :: st) h) := rfl
theorem e77_1 : exq sa F N S rt cd77 P Q 1 L st h = (ex1 sa F N S rt P Q 1 L st h (.lookupswitch 61 #[(98, 59), (107, 55), (109, 51), (112, 53), (116, 57)]) 0 0 0 0) := rfl
theorem e77_52 : exq sa F N S rt cd77 P Q 52 L st h = (P 53 L (.int (Int32.ofInt (1)) :: st) h) := rfl
theorem e77_53 : exq sa F N S rt cd77 P Q 53 L st h = (tI st fun v s => s = [] ∧ (rt = some .int ∨ (rt = some .boolean ∧ (v = 0 ∨ v = 1))) ∧ Q (some (.int v)) h) := rfl
theorem e77_54 : exq sa F N S rt cd77 P Q 54 L st h = (P 55 L (.int (Int32.ofInt (2)) :: st) h) := rfl
theorem e77_55 : exq sa F N S rt cd77 P Q 55 L st h = (tI st fun v s => s = [] ∧ (rt = some .int ∨ (rt = some .boolean ∧ (v = 0 ∨ v = 1))) ∧ Q (some (.int v)) h) := rfl
theorem e77_56 : exq sa F N S rt cd77 P Q 56 L st h = (P 57 L (.int (Int32.ofInt (3)) :: st) h) := rfl
theorem e77_57 : exq sa F N S rt cd77 P Q 57 L st h = (tI st fun v s => s = [] ∧ (rt = some .int ∨ (rt = some .boolean ∧ (v = 0 ∨ v = 1))) ∧ Q (some (.int v)) h) := rfl
theorem e77_58 : exq sa F N S rt cd77 P Q 58 L st h = (P 59 L (.int (Int32.ofInt (4)) :: st) h) := rfl
theorem e77_59 : exq sa F N S rt cd77 P Q 59 L st h = (tI st fun v s => s = [] ∧ (rt = some .int ∨ (rt = some .boolean ∧ (v = 0 ∨ v = 1))) ∧ Q (some (.int v)) h) := rfl
theorem e77_60 : exq sa F N S rt cd77 P Q 60 L st h = (P 61 L (.int (Int32.ofInt (5)) :: st) h) := rfl
theorem e77_61 : exq sa F N S rt cd77 P Q 61 L st h = (tI st fun v s => s = [] ∧ (rt = some .int ∨ (rt = some .boolean ∧ (v = 0 ∨ v = 1))) ∧ Q (some (.int v)) h) := rfl
theorem e77_62 : exq sa F N S rt cd77 P Q 62 L st h = (P 63 L (.int (Int32.ofInt (0)) :: st) h) := rfl
theorem e77_63 : exq sa F N S rt cd77 P Q 63 L st h = (tI st fun v s => s = [] ∧ (rt = some .int ∨ (rt = some .boolean ∧ (v = 0 ∨ v = 1))) ∧ Q (some (.int v)) h) := rfl
theorem e78_0 : exq sa F N S rt cd78 P Q 0 L st h = (ldR L 0 fun v => P 1 L (v :: st) h) := rfl
theorem e78_1 : exq sa F N S rt cd78 P Q 1 L st h = (ex1 sa F N S rt P Q 1 L st h (.invokespecial 3) 3 0 1 0) := rfl
theorem e78_4 : exq sa F N S rt cd78 P Q 4 L st h = (ldR L 0 fun v => P 5 L (v :: st) h) := rfl
theorem e78_5 : exq sa F N S rt cd78 P Q 5 L st h = (P 7 L (.int (Int32.ofInt (8)) :: st) h) := rfl
theorem e78_7 : exq sa F N S rt cd78 P Q 7 L st h = (P 9 L (.int (Int32.ofInt (40)) :: st) h) := rfl
theorem e78_9 : exq sa F N S rt cd78 P Q 9 L st h = (ex1 sa F N S rt P Q 9 L st h (.multianewarray 11 2) 0 0 0 0) := rfl
theorem e78_13 : exq sa F N S rt cd78 P Q 13 L st h = (pfd st h 5 0 2 fun s h' => P 16 L s h') := rfl
theorem e78_16 : exq sa F N S rt cd78 P Q 16 L st h = (ldR L 0 fun v => P 17 L (v :: st) h) := rfl
theorem e78_17 : exq sa F N S rt cd78 P Q 17 L st h = (P 19 L (.int (Int32.ofInt (8)) :: st) h) := rfl
theorem e78_19 : exq sa F N S rt cd78 P Q 19 L st h = (ex1 sa F N S rt P Q 19 L st h (.newarray .int) 0 0 0 0) := rfl
theorem e78_21 : exq sa F N S rt cd78 P Q 21 L st h = (pfd st h 5 1 2 fun s h' => P 24 L s h') := rfl
theorem e78_24 : exq sa F N S rt cd78 P Q 24 L st h = (ldR L 0 fun v => P 25 L (v :: st) h) := rfl
theorem e78_25 : exq sa F N S rt cd78 P Q 25 L st h = (P 27 L (.int (Int32.ofInt (8)) :: st) h) := rfl
theorem e78_27 : exq sa F N S rt cd78 P Q 27 L st h = (ex1 sa F N S rt P Q 27 L st h (.newarray .int) 0 0 0 0) := rfl
theorem e78_29 : exq sa F N S rt cd78 P Q 29 L st h = (du1 st fun v s => P 30 L (v :: v :: s) h) := rfl
theorem e78_30 : exq sa F N S rt cd78 P Q 30 L st h = (P 31 L (.int (Int32.ofInt (0)) :: st) h) := rfl
theorem e78_31 : exq sa F N S rt cd78 P Q 31 L st h = (P 32 L (.int (Int32.ofInt (-1)) :: st) h) := rfl
theorem e78_32 : exq sa F N S rt cd78 P Q 32 L st h = (tI st fun v s => tI s fun i s => tR s fun a s => opt (hI h a) fun q => ix i q.1 fun k => P 33 L s (hS h a (.inl (0, q.1, .inl (upd q.2 k v))))) := rfl
theorem e78_33 : exq sa F N S rt cd78 P Q 33 L st h = (du1 st fun v s => P 34 L (v :: v :: s) h) := rfl
theorem e78_34 : exq sa F N S rt cd78 P Q 34 L st h = (P 35 L (.int (Int32.ofInt (1)) :: st) h) := rfl
theorem e78_35 : exq sa F N S rt cd78 P Q 35 L st h = (P 36 L (.int (Int32.ofInt (-1)) :: st) h) := rfl
theorem e78_36 : exq sa F N S rt cd78 P Q 36 L st h = (tI st fun v s => tI s fun i s => tR s fun a s => opt (hI h a) fun q => ix i q.1 fun k => P 37 L s (hS h a (.inl (0, q.1, .inl (upd q.2 k v))))) := rfl
theorem e78_37 : exq sa F N S rt cd78 P Q 37 L st h = (du1 st fun v s => P 38 L (v :: v :: s) h) := rfl
theorem e78_38 : exq sa F N S rt cd78 P Q 38 L st h = (P 39 L (.int (Int32.ofInt (2)) :: st) h) := rfl
theorem e78_39 : exq sa F N S rt cd78 P Q 39 L st h = (P 40 L (.int (Int32.ofInt (-1)) :: st) h) := rfl
theorem e78_40 : exq sa F N S rt cd78 P Q 40 L st h = (tI st fun v s => tI s fun i s => tR s fun a s => opt (hI h a) fun q => ix i q.1 fun k => P 41 L s (hS h a (.inl (0, q.1, .inl (upd q.2 k v))))) := rfl
theorem e78_41 : exq sa F N S rt cd78 P Q 41 L st h = (du1 st fun v s => P 42 L (v :: v :: s) h) := rfl
theorem e78_42 : exq sa F N S rt cd78 P Q 42 L st h = (P 43 L (.int (Int32.ofInt (3)) :: st) h) := rfl
theorem e78_43 : exq sa F N S rt cd78 P Q 43 L st h = (P 44 L (.int (Int32.ofInt (-1)) :: st) h) := rfl
theorem e78_44 : exq sa F N S rt cd78 P Q 44 L st h = (tI st fun v s => tI s fun i s => tR s fun a s => opt (hI h a) fun q => ix i q.1 fun k => P 45 L s (hS h a (.inl (0, q.1, .inl (upd q.2 k v))))) := rfl
theorem e78_45 : exq sa F N S rt cd78 P Q 45 L st h = (du1 st fun v s => P 46 L (v :: v :: s) h) := rfl
theorem e78_46 : exq sa F N S rt cd78 P Q 46 L st h = (P 47 L (.int (Int32.ofInt (4)) :: st) h) := rfl
theorem e78_47 : exq sa F N S rt cd78 P Q 47 L st h = (P 48 L (.int (Int32.ofInt (-1)) :: st) h) := rfl
theorem e78_48 : exq sa F N S rt cd78 P Q 48 L st h = (tI st fun v s => tI s fun i s => tR s fun a s => opt (hI h a) fun q => ix i q.1 fun k => P 49 L s (hS h a (.inl (0, q.1, .inl (upd q.2 k v))))) := rfl
theorem e78_49 : exq sa F N S rt cd78 P Q 49 L st h = (du1 st fun v s => P 50 L (v :: v :: s) h) := rfl
theorem e78_50 : exq sa F N S rt cd78 P Q 50 L st h = (P 51 L (.int (Int32.ofInt (5)) :: st) h) := rfl
theorem e78_51 : exq sa F N S rt cd78 P Q 51 L st h = (P 52 L (.int (Int32.ofInt (-1)) :: st) h) := rfl
theorem e78_52 : exq sa F N S rt cd78 P Q 52 L st h = (tI st fun v s => tI s fun i s => tR s fun a s => opt (hI h a) fun q => ix i q.1 fun k => P 53 L s (hS h a (.inl (0, q.1, .inl (upd q.2 k v))))) := rfl
theorem e78_53 : exq sa F N S rt cd78 P Q 53 L st h = (du1 st fun v s => P 54 L (v :: v :: s) h) := rfl
theorem e78_54 : exq sa F N S rt cd78 P Q 54 L st h = (P 56 L (.int (Int32.ofInt (6)) :: st) h) := rfl
theorem e78_56 : exq sa F N S rt cd78 P Q 56 L st h = (P 57 L (.int (Int32.ofInt (-1)) :: st) h) := rfl
theorem e78_57 : exq sa F N S rt cd78 P Q 57 L st h = (tI st fun v s => tI s fun i s => tR s fun a s => opt (hI h a) fun q => ix i q.1 fun k => P 58 L s (hS h a (.inl (0, q.1, .inl (upd q.2 k v))))) := rfl
theorem e78_58 : exq sa F N S rt cd78 P Q 58 L st h = (du1 st fun v s => P 59 L (v :: v :: s) h) := rfl
theorem e78_59 : exq sa F N S rt cd78 P Q 59 L st h = (P 61 L (.int (Int32.ofInt (7)) :: st) h) := rfl
theorem e78_61 : exq sa F N S rt cd78 P Q 61 L st h = (P 62 L (.int (Int32.ofInt (-1)) :: st) h) := rfl
theorem e78_62 : exq sa F N S rt cd78 P Q 62 L st h = (tI st fun v s => tI s fun i s => tR s fun a s => opt (hI h a) fun q => ix i q.1 fun k => P 63 L s (hS h a (.inl (0, q.1, .inl (upd q.2 k v))))) := rfl
theorem e78_63 : exq sa F N S rt cd78 P Q 63 L st h = (pfd st h 5 2 2 fun s h' => P 66 L s h') := rfl
theorem e78_66 : exq sa F N S rt cd78 P Q 66 L st h = (st = [] ∧ rt = none ∧ Q none h) := rfl
theorem e79_0 : exq sa F N S rt cd79 P Q 0 L st h = (ldI L 0 fun v => P 1 L (.int v :: st) h) := rfl
theorem e79_1 : exq sa F N S rt cd79 P Q 1 L st h = (P 2 L (.int (Int32.ofInt (0)) :: st) h) := rfl
theorem e79_2 : exq sa F N S rt cd79 P Q 2 L st h = (P 4 L (.int (Int32.ofInt (7)) :: st) h) := rfl
theorem e79_4 : exq sa F N S rt cd79 P Q 4 L st h = (ivS F 131 3 st h fun r s h' => P 7 L (pu r s) h') := rfl
theorem e79_7 : exq sa F N S rt cd79 P Q 7 L st h = (tI st fun v s => s = [] ∧ (rt = some .int ∨ (rt = some .boolean ∧ (v = 0 ∨ v = 1))) ∧ Q (some (.int v)) h) := rfl
theorem e80_0 : exq sa F N S rt cd80 P Q 0 L st h = (ldR L 0 fun v => P 1 L (v :: st) h) := rfl
theorem e80_1 : exq sa F N S rt cd80 P Q 1 L st h = (tR st fun a s => opt (hO h a 5) fun fs => opt (fs[2]?) fun v => P 4 L (v :: s) h) := rfl
theorem e80_4 : exq sa F N S rt cd80 P Q 4 L st h = (ldI L 1 fun v => P 5 L (.int v :: st) h) := rfl
theorem e80_5 : exq sa F N S rt cd80 P Q 5 L st h = (ald sa st h fun v s => P 6 L (.int v :: s) h) := rfl
theorem e80_6 : exq sa F N S rt cd80 P Q 6 L st h = (P 7 L (.int (Int32.ofInt (-1)) :: st) h) := rfl
theorem e80_7 : exq sa F N S rt cd80 P Q 7 L st h = (tI st fun b s => tI s fun a s => br (a = b) (P 10 L s h) (P 14 L s h)) := rfl
theorem e80_10 : exq sa F N S rt cd80 P Q 10 L st h = (P 11 L (.int (Int32.ofInt (1)) :: st) h) := rfl
theorem e80_11 : exq sa F N S rt cd80 P Q 11 L st h = (P 15 L st h) := rfl
theorem e80_14 : exq sa F N S rt cd80 P Q 14 L st h = (P 15 L (.int (Int32.ofInt (0)) :: st) h) := rfl
theorem e80_15 : exq sa F N S rt cd80 P Q 15 L st h = (tI st fun v s => s = [] ∧ (rt = some .int ∨ (rt = some .boolean ∧ (v = 0 ∨ v = 1))) ∧ Q (some (.int v)) h) := rfl
theorem e81_0 : exq sa F N S rt cd81 P Q 0 L st h = (P 1 L (.int (Int32.ofInt (0)) :: st) h) := rfl
theorem e81_1 : exq sa F N S rt cd81 P Q 1 L st h = (tI st fun v s => lvS L 1 (.int v) fun L' => P 2 L' s h) := rfl
theorem e81_2 : exq sa F N S rt cd81 P Q 2 L st h = (P 3 L (.int (Int32.ofInt (0)) :: st) h) := rfl
theorem e81_3 : exq sa F N S rt cd81 P Q 3 L st h = (tI st fun v s => lvS L 2 (.int v) fun L' => P 4 L' s h) := rfl
theorem e81_4 : exq sa F N S rt cd81 P Q 4 L st h = (ldI L 2 fun v => P 5 L (.int v :: st) h) := rfl
theorem e81_5 : exq sa F N S rt cd81 P Q 5 L st h = (P 7 L (.int (Int32.ofInt (8)) :: st) h) := rfl
theorem e81_7 : exq sa F N S rt cd81 P Q 7 L st h = (tI st fun b s => tI s fun a s => br (b ≤ a) (P 32 L s h) (P 10 L s h)) := rfl
theorem e81_10 : exq sa F N S rt cd81 P Q 10 L st h = (ldI L 1 fun v => P 11 L (.int v :: st) h) := rfl
theorem e81_11 : exq sa F N S rt cd81 P Q 11 L st h = (ldR L 0 fun v => P 12 L (v :: st) h) := rfl
theorem e81_12 : exq sa F N S rt cd81 P Q 12 L st h = (ldI L 2 fun v => P 13 L (.int v :: st) h) := rfl
theorem e81_13 : exq sa F N S rt cd81 P Q 13 L st h = (ivV F 80 2 5 st h fun r s h' => P 16 L (pu r s) h') := rfl
theorem e81_16 : exq sa F N S rt cd81 P Q 16 L st h = (tI st fun a s => br (a = 0) (P 23 L s h) (P 19 L s h)) := rfl
theorem e81_19 : exq sa F N S rt cd81 P Q 19 L st h = (P 20 L (.int (Int32.ofInt (0)) :: st) h) := rfl
theorem e81_20 : exq sa F N S rt cd81 P Q 20 L st h = (P 24 L st h) := rfl
theorem e81_23 : exq sa F N S rt cd81 P Q 23 L st h = (P 24 L (.int (Int32.ofInt (1)) :: st) h) := rfl
theorem e81_24 : exq sa F N S rt cd81 P Q 24 L st h = (tI st fun b s => tI s fun a s => P 25 L (.int (a + b) :: s) h) := rfl
theorem e81_25 : exq sa F N S rt cd81 P Q 25 L st h = (tI st fun v s => lvS L 1 (.int v) fun L' => P 26 L' s h) := rfl
theorem e81_26 : exq sa F N S rt cd81 P Q 26 L st h = (ldI L 2 fun v => lvS L 2 (.int (v + Int32.ofInt (1))) fun L' => P 29 L' st h) := rfl
theorem e81_29 : exq sa F N S rt cd81 P Q 29 L st h = (P 4 L st h) := rfl
theorem e81_32 : exq sa F N S rt cd81 P Q 32 L st h = (ldI L 1 fun v => P 33 L (.int v :: st) h) := rfl
theorem e81_33 : exq sa F N S rt cd81 P Q 33 L st h = (tI st fun v s => s = [] ∧ (rt = some .int ∨ (rt = some .boolean ∧ (v = 0 ∨ v = 1))) ∧ Q (some (.int v)) h) := rfl
theorem e82_0 : exq sa F N S rt cd82 P Q 0 L st h = (ldR L 0 fun v => P 1 L (v :: st) h) := rfl
theorem e82_1 : exq sa F N S rt cd82 P Q 1 L st h = (tR st fun a s => opt (hO h a 5) fun fs => opt (fs[1]?) fun v => P 4 L (v :: s) h) := rfl
theorem e82_4 : exq sa F N S rt cd82 P Q 4 L st h = (ldI L 1 fun v => P 5 L (.int v :: st) h) := rfl
theorem e82_5 : exq sa F N S rt cd82 P Q 5 L st h = (ldI L 2 fun v => P 6 L (.int v :: st) h) := rfl
theorem e82_6 : exq sa F N S rt cd82 P Q 6 L st h = (tI st fun v s => tI s fun i s => tR s fun a s => opt (hI h a) fun q => ix i q.1 fun k => P 7 L s (hS h a (.inl (0, q.1, .inl (upd q.2 k v))))) := rfl
theorem e82_7 : exq sa F N S rt cd82 P Q 7 L st h = (ldR L 0 fun v => P 8 L (v :: st) h) := rfl
theorem e82_8 : exq sa F N S rt cd82 P Q 8 L st h = (tR st fun a s => opt (hO h a 5) fun fs => opt (fs[2]?) fun v => P 11 L (v :: s) h) := rfl
theorem e82_11 : exq sa F N S rt cd82 P Q 11 L st h = (ldI L 1 fun v => P 12 L (.int v :: st) h) := rfl
theorem e82_12 : exq sa F N S rt cd82 P Q 12 L st h = (ldI L 3 fun v => P 13 L (.int v :: st) h) := rfl
theorem e82_13 : exq sa F N S rt cd82 P Q 13 L st h = (tI st fun v s => tI s fun i s => tR s fun a s => opt (hI h a) fun q => ix i q.1 fun k => P 14 L s (hS h a (.inl (0, q.1, .inl (upd q.2 k v))))) := rfl
theorem e82_14 : exq sa F N S rt cd82 P Q 14 L st h = (P 15 L (.int (Int32.ofInt (0)) :: st) h) := rfl
theorem e82_15 : exq sa F N S rt cd82 P Q 15 L st h = (tI st fun v s => lvS L 4 (.int v) fun L' => P 17 L' s h) := rfl
theorem e82_17 : exq sa F N S rt cd82 P Q 17 L st h = (ldI L 4 fun v => P 19 L (.int v :: st) h) := rfl
theorem e82_19 : exq sa F N S rt cd82 P Q 19 L st h = (ldI L 3 fun v => P 20 L (.int v :: st) h) := rfl
theorem e82_20 : exq sa F N S rt cd82 P Q 20 L st h = (tI st fun b s => tI s fun a s => br (b ≤ a) (P 39 L s h) (P 23 L s h)) := rfl
theorem e82_23 : exq sa F N S rt cd82 P Q 23 L st h = (ldR L 0 fun v => P 24 L (v :: st) h) := rfl
theorem e82_24 : exq sa F N S rt cd82 P Q 24 L st h = (tR st fun a s => opt (hO h a 5) fun fs => opt (fs[0]?) fun v => P 27 L (v :: s) h) := rfl
theorem e82_27 : exq sa F N S rt cd82 P Q 27 L st h = (ldI L 1 fun v => P 28 L (.int v :: st) h) := rfl
theorem e82_28 : exq sa F N S rt cd82 P Q 28 L st h = (tI st fun i s => tR s fun a s => opt (hR h a) fun q => ix i q.2.1 fun k => opt (q.2.2 k) fun v => P 29 L (.ref v :: s) h) := rfl
theorem e82_29 : exq sa F N S rt cd82 P Q 29 L st h = (ldI L 4 fun v => P 31 L (.int v :: st) h) := rfl
theorem e82_31 : exq sa F N S rt cd82 P Q 31 L st h = (P 32 L (.int (Int32.ofInt (0)) :: st) h) := rfl
theorem e82_32 : exq sa F N S rt cd82 P Q 32 L st h = (tI st fun v s => tI s fun i s => tR s fun a s => opt (hI h a) fun q => ix i q.1 fun k => P 33 L s (hS h a (.inl (0, q.1, .inl (upd q.2 k v))))) := rfl
theorem e82_33 : exq sa F N S rt cd82 P Q 33 L st h = (ldI L 4 fun v => lvS L 4 (.int (v + Int32.ofInt (1))) fun L' => P 36 L' st h) := rfl
theorem e82_36 : exq sa F N S rt cd82 P Q 36 L st h = (P 17 L st h) := rfl
theorem e82_39 : exq sa F N S rt cd82 P Q 39 L st h = (st = [] ∧ rt = none ∧ Q none h) := rfl
theorem e83_0 : exq sa F N S rt cd83 P Q 0 L st h = (ldR L 0 fun v => P 1 L (v :: st) h) := rfl
theorem e83_1 : exq sa F N S rt cd83 P Q 1 L st h = (tR st fun a s => opt (hO h a 5) fun fs => opt (fs[2]?) fun v => P 4 L (v :: s) h) := rfl
theorem e83_4 : exq sa F N S rt cd83 P Q 4 L st h = (ldI L 1 fun v => P 5 L (.int v :: st) h) := rfl
theorem e83_5 : exq sa F N S rt cd83 P Q 5 L st h = (ald sa st h fun v s => P 6 L (.int v :: s) h) := rfl
theorem e83_6 : exq sa F N S rt cd83 P Q 6 L st h = (tI st fun v s => lvS L 2 (.int v) fun L' => P 7 L' s h) := rfl
theorem e83_7 : exq sa F N S rt cd83 P Q 7 L st h = (ldR L 0 fun v => P 8 L (v :: st) h) := rfl
theorem e83_8 : exq sa F N S rt cd83 P Q 8 L st h = (tR st fun a s => opt (hO h a 5) fun fs => opt (fs[2]?) fun v => P 11 L (v :: s) h) := rfl
theorem e83_11 : exq sa F N S rt cd83 P Q 11 L st h = (ldI L 1 fun v => P 12 L (.int v :: st) h) := rfl
theorem e83_12 : exq sa F N S rt cd83 P Q 12 L st h = (P 13 L (.int (Int32.ofInt (-1)) :: st) h) := rfl
theorem e83_13 : exq sa F N S rt cd83 P Q 13 L st h = (tI st fun v s => tI s fun i s => tR s fun a s => opt (hI h a) fun q => ix i q.1 fun k => P 14 L s (hS h a (.inl (0, q.1, .inl (upd q.2 k v))))) := rfl
theorem e83_14 : exq sa F N S rt cd83 P Q 14 L st h = (ldI L 2 fun v => P 15 L (.int v :: st) h) := rfl
theorem e83_15 : exq sa F N S rt cd83 P Q 15 L st h = (tI st fun v s => s = [] ∧ (rt = some .int ∨ (rt = some .boolean ∧ (v = 0 ∨ v = 1))) ∧ Q (some (.int v)) h) := rfl
theorem e84_0 : exq sa F N S rt cd84 P Q 0 L st h = (ldR L 0 fun v => P 1 L (v :: st) h) := rfl
theorem e84_1 : exq sa F N S rt cd84 P Q 1 L st h = (tR st fun a s => opt (hO h a 5) fun fs => opt (fs[0]?) fun v => P 4 L (v :: s) h) := rfl
theorem e84_4 : exq sa F N S rt cd84 P Q 4 L st h = (ldI L 1 fun v => P 5 L (.int v :: st) h) := rfl
theorem e84_5 : exq sa F N S rt cd84 P Q 5 L st h = (tI st fun i s => tR s fun a s => opt (hR h a) fun q => ix i q.2.1 fun k => opt (q.2.2 k) fun v => P 6 L (.ref v :: s) h) := rfl
theorem e84_6 : exq sa F N S rt cd84 P Q 6 L st h = (ldI L 2 fun v => P 7 L (.int v :: st) h) := rfl
theorem e84_7 : exq sa F N S rt cd84 P Q 7 L st h = (ldR L 0 fun v => P 8 L (v :: st) h) := rfl
theorem e84_8 : exq sa F N S rt cd84 P Q 8 L st h = (tR st fun a s => opt (hO h a 5) fun fs => opt (fs[1]?) fun v => P 11 L (v :: s) h) := rfl
theorem e84_11 : exq sa F N S rt cd84 P Q 11 L st h = (ldI L 1 fun v => P 12 L (.int v :: st) h) := rfl
theorem e84_12 : exq sa F N S rt cd84 P Q 12 L st h = (ald sa st h fun v s => P 13 L (.int v :: s) h) := rfl
theorem e84_13 : exq sa F N S rt cd84 P Q 13 L st h = (ldI L 3 fun v => P 14 L (.int v :: st) h) := rfl
theorem e84_14 : exq sa F N S rt cd84 P Q 14 L st h = (ivS F 89 2 st h fun r s h' => P 17 L (pu r s) h') := rfl
theorem e84_17 : exq sa F N S rt cd84 P Q 17 L st h = (tI st fun v s => tI s fun i s => tR s fun a s => opt (hI h a) fun q => ix i q.1 fun k => P 18 L s (hS h a (.inl (0, q.1, .inl (upd q.2 k v))))) := rfl
theorem e84_18 : exq sa F N S rt cd84 P Q 18 L st h = (ldR L 0 fun v => P 19 L (v :: st) h) := rfl
theorem e84_19 : exq sa F N S rt cd84 P Q 19 L st h = (tR st fun a s => opt (hO h a 5) fun fs => opt (fs[0]?) fun v => P 22 L (v :: s) h) := rfl
theorem e84_22 : exq sa F N S rt cd84 P Q 22 L st h = (ldI L 1 fun v => P 23 L (.int v :: st) h) := rfl
theorem e84_23 : exq sa F N S rt cd84 P Q 23 L st h = (tI st fun i s => tR s fun a s => opt (hR h a) fun q => ix i q.2.1 fun k => opt (q.2.2 k) fun v => P 24 L (.ref v :: s) h) := rfl
theorem e84_24 : exq sa F N S rt cd84 P Q 24 L st h = (ldI L 2 fun v => P 25 L (.int v :: st) h) := rfl
theorem e84_25 : exq sa F N S rt cd84 P Q 25 L st h = (ald sa st h fun v s => P 26 L (.int v :: s) h) := rfl
theorem e84_26 : exq sa F N S rt cd84 P Q 26 L st h = (tI st fun v s => s = [] ∧ (rt = some .int ∨ (rt = some .boolean ∧ (v = 0 ∨ v = 1))) ∧ Q (some (.int v)) h) := rfl
theorem e85_0 : exq sa F N S rt cd85 P Q 0 L st h = (ldR L 0 fun v => P 1 L (v :: st) h) := rfl
theorem e85_1 : exq sa F N S rt cd85 P Q 1 L st h = (tR st fun a s => opt (hO h a 5) fun fs => opt (fs[0]?) fun v => P 4 L (v :: s) h) := rfl
theorem e85_4 : exq sa F N S rt cd85 P Q 4 L st h = (ldI L 1 fun v => P 5 L (.int v :: st) h) := rfl
theorem e85_5 : exq sa F N S rt cd85 P Q 5 L st h = (tI st fun i s => tR s fun a s => opt (hR h a) fun q => ix i q.2.1 fun k => opt (q.2.2 k) fun v => P 6 L (.ref v :: s) h) := rfl
theorem e85_6 : exq sa F N S rt cd85 P Q 6 L st h = (ldI L 2 fun v => P 7 L (.int v :: st) h) := rfl
theorem e85_7 : exq sa F N S rt cd85 P Q 7 L st h = (ldR L 0 fun v => P 8 L (v :: st) h) := rfl
theorem e85_8 : exq sa F N S rt cd85 P Q 8 L st h = (tR st fun a s => opt (hO h a 5) fun fs => opt (fs[0]?) fun v => P 11 L (v :: s) h) := rfl
theorem e85_11 : exq sa F N S rt cd85 P Q 11 L st h = (ldI L 3 fun v => P 12 L (.int v :: st) h) := rfl
theorem e85_12 : exq sa F N S rt cd85 P Q 12 L st h = (tI st fun i s => tR s fun a s => opt (hR h a) fun q => ix i q.2.1 fun k => opt (q.2.2 k) fun v => P 13 L (.ref v :: s) h) := rfl
theorem e85_13 : exq sa F N S rt cd85 P Q 13 L st h = (ldI L 4 fun v => P 15 L (.int v :: st) h) := rfl
theorem e85_15 : exq sa F N S rt cd85 P Q 15 L st h = (ldI L 5 fun v => P 17 L (.int v :: st) h) := rfl
theorem e85_17 : exq sa F N S rt cd85 P Q 17 L st h = (ex1 sa F N S rt P Q 17 L st h (.invokestatic 35) 4 0 5 0) := rfl
theorem e85_20 : exq sa F N S rt cd85 P Q 20 L st h = (st = [] ∧ rt = none ∧ Q none h) := rfl
theorem e86_0 : exq sa F N S rt cd86 P Q 0 L st h = (ldR L 0 fun v => P 1 L (v :: st) h) := rfl
theorem e86_1 : exq sa F N S rt cd86 P Q 1 L st h = (ldI L 1 fun v => P 2 L (.int v :: st) h) := rfl
theorem e86_2 : exq sa F N S rt cd86 P Q 2 L st h = (ivV F 80 2 5 st h fun r s h' => P 5 L (pu r s) h') := rfl
theorem e86_5 : exq sa F N S rt cd86 P Q 5 L st h = (tI st fun a s => br (a = 0) (P 10 L s h) (P 8 L s h)) := rfl
theorem e86_8 : exq sa F N S rt cd86 P Q 8 L st h = (P 9 L (.int (Int32.ofInt (1)) :: st) h) := rfl
theorem e86_9 : exq sa F N S rt cd86 P Q 9 L st h = (tI st fun v s => s = [] ∧ (rt = some .int ∨ (rt = some .boolean ∧ (v = 0 ∨ v = 1))) ∧ Q (some (.int v)) h) := rfl
theorem e86_10 : exq sa F N S rt cd86 P Q 10 L st h = (ldR L 0 fun v => P 11 L (v :: st) h) := rfl
theorem e86_11 : exq sa F N S rt cd86 P Q 11 L st h = (ldI L 1 fun v => P 12 L (.int v :: st) h) := rfl
theorem e86_12 : exq sa F N S rt cd86 P Q 12 L st h = (ldI L 2 fun v => P 13 L (.int v :: st) h) := rfl
theorem e86_13 : exq sa F N S rt cd86 P Q 13 L st h = (ldI L 3 fun v => P 14 L (.int v :: st) h) := rfl
theorem e86_14 : exq sa F N S rt cd86 P Q 14 L st h = (ivV F 88 4 5 st h fun r s h' => P 17 L (pu r s) h') := rfl
theorem e86_17 : exq sa F N S rt cd86 P Q 17 L st h = (tI st fun a s => br (a = 0) (P 24 L s h) (P 20 L s h)) := rfl
theorem e86_20 : exq sa F N S rt cd86 P Q 20 L st h = (P 21 L (.int (Int32.ofInt (0)) :: st) h) := rfl
theorem e86_21 : exq sa F N S rt cd86 P Q 21 L st h = (P 25 L st h) := rfl
theorem e86_24 : exq sa F N S rt cd86 P Q 24 L st h = (P 25 L (.int (Int32.ofInt (2)) :: st) h) := rfl
theorem e86_25 : exq sa F N S rt cd86 P Q 25 L st h = (tI st fun v s => s = [] ∧ (rt = some .int ∨ (rt = some .boolean ∧ (v = 0 ∨ v = 1))) ∧ Q (some (.int v)) h) := rfl
theorem e87_0 : exq sa F N S rt cd87 P Q 0 L st h = (ldR L 0 fun v => P 1 L (v :: st) h) := rfl
theorem e87_1 : exq sa F N S rt cd87 P Q 1 L st h = (ldI L 1 fun v => P 2 L (.int v :: st) h) := rfl
theorem e87_2 : exq sa F N S rt cd87 P Q 2 L st h = (ivV F 80 2 5 st h fun r s h' => P 5 L (pu r s) h') := rfl
theorem e87_5 : exq sa F N S rt cd87 P Q 5 L st h = (tI st fun a s => br (a = 0) (P 8 L s h) (P 16 L s h)) := rfl
theorem e87_8 : exq sa F N S rt cd87 P Q 8 L st h = (ldR L 0 fun v => P 9 L (v :: st) h) := rfl
theorem e87_9 : exq sa F N S rt cd87 P Q 9 L st h = (ldI L 3 fun v => P 10 L (.int v :: st) h) := rfl
theorem e87_10 : exq sa F N S rt cd87 P Q 10 L st h = (ivV F 80 2 5 st h fun r s h' => P 13 L (pu r s) h') := rfl
theorem e87_13 : exq sa F N S rt cd87 P Q 13 L st h = (tI st fun a s => br (a = 0) (P 18 L s h) (P 16 L s h)) := rfl
theorem e87_16 : exq sa F N S rt cd87 P Q 16 L st h = (P 17 L (.int (Int32.ofInt (1)) :: st) h) := rfl
theorem e87_17 : exq sa F N S rt cd87 P Q 17 L st h = (tI st fun v s => s = [] ∧ (rt = some .int ∨ (rt = some .boolean ∧ (v = 0 ∨ v = 1))) ∧ Q (some (.int v)) h) := rfl
theorem e87_18 : exq sa F N S rt cd87 P Q 18 L st h = (ldR L 0 fun v => P 19 L (v :: st) h) := rfl
theorem e87_19 : exq sa F N S rt cd87 P Q 19 L st h = (tR st fun a s => opt (hO h a 5) fun fs => opt (fs[1]?) fun v => P 22 L (v :: s) h) := rfl
theorem e87_22 : exq sa F N S rt cd87 P Q 22 L st h = (ldI L 1 fun v => P 23 L (.int v :: st) h) := rfl
theorem e87_23 : exq sa F N S rt cd87 P Q 23 L st h = (ald sa st h fun v s => P 24 L (.int v :: s) h) := rfl
theorem e87_24 : exq sa F N S rt cd87 P Q 24 L st h = (ldR L 0 fun v => P 25 L (v :: st) h) := rfl
theorem e87_25 : exq sa F N S rt cd87 P Q 25 L st h = (tR st fun a s => opt (hO h a 5) fun fs => opt (fs[1]?) fun v => P 28 L (v :: s) h) := rfl
theorem e87_28 : exq sa F N S rt cd87 P Q 28 L st h = (ldI L 3 fun v => P 29 L (.int v :: st) h) := rfl
theorem e87_29 : exq sa F N S rt cd87 P Q 29 L st h = (ald sa st h fun v s => P 30 L (.int v :: s) h) := rfl
theorem e87_30 : exq sa F N S rt cd87 P Q 30 L st h = (tI st fun b s => tI s fun a s => br (a = b) (P 35 L s h) (P 33 L s h)) := rfl
theorem e87_33 : exq sa F N S rt cd87 P Q 33 L st h = (P 34 L (.int (Int32.ofInt (5)) :: st) h) := rfl
theorem e87_34 : exq sa F N S rt cd87 P Q 34 L st h = (tI st fun v s => s = [] ∧ (rt = some .int ∨ (rt = some .boolean ∧ (v = 0 ∨ v = 1))) ∧ Q (some (.int v)) h) := rfl
theorem e87_35 : exq sa F N S rt cd87 P Q 35 L st h = (ldR L 0 fun v => P 36 L (v :: st) h) := rfl
theorem e87_36 : exq sa F N S rt cd87 P Q 36 L st h = (ldI L 1 fun v => P 37 L (.int v :: st) h) := rfl
theorem e87_37 : exq sa F N S rt cd87 P Q 37 L st h = (ldI L 2 fun v => P 38 L (.int v :: st) h) := rfl
theorem e87_38 : exq sa F N S rt cd87 P Q 38 L st h = (ldI L 5 fun v => P 40 L (.int v :: st) h) := rfl
theorem e87_40 : exq sa F N S rt cd87 P Q 40 L st h = (ivV F 88 4 5 st h fun r s h' => P 43 L (pu r s) h') := rfl
theorem e87_43 : exq sa F N S rt cd87 P Q 43 L st h = (tI st fun a s => br (a = 0) (P 62 L s h) (P 46 L s h)) := rfl
theorem e87_46 : exq sa F N S rt cd87 P Q 46 L st h = (ldR L 0 fun v => P 47 L (v :: st) h) := rfl
theorem e87_47 : exq sa F N S rt cd87 P Q 47 L st h = (ldI L 3 fun v => P 48 L (.int v :: st) h) := rfl
theorem e87_48 : exq sa F N S rt cd87 P Q 48 L st h = (ldI L 4 fun v => P 50 L (.int v :: st) h) := rfl
theorem e87_50 : exq sa F N S rt cd87 P Q 50 L st h = (ldI L 5 fun v => P 52 L (.int v :: st) h) := rfl
theorem e87_52 : exq sa F N S rt cd87 P Q 52 L st h = (ivV F 88 4 5 st h fun r s h' => P 55 L (pu r s) h') := rfl
theorem e87_55 : exq sa F N S rt cd87 P Q 55 L st h = (tI st fun a s => br (a = 0) (P 62 L s h) (P 58 L s h)) := rfl
theorem e87_58 : exq sa F N S rt cd87 P Q 58 L st h = (P 59 L (.int (Int32.ofInt (0)) :: st) h) := rfl
theorem e87_59 : exq sa F N S rt cd87 P Q 59 L st h = (P 63 L st h) := rfl
theorem e87_62 : exq sa F N S rt cd87 P Q 62 L st h = (P 63 L (.int (Int32.ofInt (2)) :: st) h) := rfl
theorem e87_63 : exq sa F N S rt cd87 P Q 63 L st h = (tI st fun v s => s = [] ∧ (rt = some .int ∨ (rt = some .boolean ∧ (v = 0 ∨ v = 1))) ∧ Q (some (.int v)) h) := rfl
theorem e88_0 : exq sa F N S rt cd88 P Q 0 L st h = (ldI L 2 fun v => P 1 L (.int v :: st) h) := rfl
theorem e88_1 : exq sa F N S rt cd88 P Q 1 L st h = (tI st fun a s => br (a < 0) (P 24 L s h) (P 4 L s h)) := rfl
theorem e88_4 : exq sa F N S rt cd88 P Q 4 L st h = (ldI L 3 fun v => P 5 L (.int v :: st) h) := rfl
theorem e88_5 : exq sa F N S rt cd88 P Q 5 L st h = (tI st fun a s => br (a < 0) (P 24 L s h) (P 8 L s h)) := rfl
theorem e88_8 : exq sa F N S rt cd88 P Q 8 L st h = (ldI L 2 fun v => P 9 L (.int v :: st) h) := rfl
theorem e88_9 : exq sa F N S rt cd88 P Q 9 L st h = (ldR L 0 fun v => P 10 L (v :: st) h) := rfl
theorem e88_10 : exq sa F N S rt cd88 P Q 10 L st h = (tR st fun a s => opt (hO h a 5) fun fs => opt (fs[2]?) fun v => P 13 L (v :: s) h) := rfl
theorem e88_13 : exq sa F N S rt cd88 P Q 13 L st h = (ldI L 1 fun v => P 14 L (.int v :: st) h) := rfl
theorem e88_14 : exq sa F N S rt cd88 P Q 14 L st h = (ald sa st h fun v s => P 15 L (.int v :: s) h) := rfl
theorem e88_15 : exq sa F N S rt cd88 P Q 15 L st h = (ldI L 3 fun v => P 16 L (.int v :: st) h) := rfl
theorem e88_16 : exq sa F N S rt cd88 P Q 16 L st h = (tI st fun b s => tI s fun a s => P 17 L (.int (a - b) :: s) h) := rfl
theorem e88_17 : exq sa F N S rt cd88 P Q 17 L st h = (tI st fun b s => tI s fun a s => br (b < a) (P 24 L s h) (P 20 L s h)) := rfl
theorem e88_20 : exq sa F N S rt cd88 P Q 20 L st h = (P 21 L (.int (Int32.ofInt (1)) :: st) h) := rfl
theorem e88_21 : exq sa F N S rt cd88 P Q 21 L st h = (P 25 L st h) := rfl
theorem e88_24 : exq sa F N S rt cd88 P Q 24 L st h = (P 25 L (.int (Int32.ofInt (0)) :: st) h) := rfl
theorem e88_25 : exq sa F N S rt cd88 P Q 25 L st h = (tI st fun v s => s = [] ∧ (rt = some .int ∨ (rt = some .boolean ∧ (v = 0 ∨ v = 1))) ∧ Q (some (.int v)) h) := rfl
theorem e89_0 : exq sa F N S rt cd89 P Q 0 L st h = (ldI L 0 fun v => P 1 L (.int v :: st) h) := rfl
theorem e89_1 : exq sa F N S rt cd89 P Q 1 L st h = (tI st fun a s => br (a = 0) (P 4 L s h) (P 7 L s h)) := rfl
theorem e89_4 : exq sa F N S rt cd89 P Q 4 L st h = (ldI L 1 fun v => P 5 L (.int v :: st) h) := rfl
theorem e89_5 : exq sa F N S rt cd89 P Q 5 L st h = (tI st fun a s => P 6 L (.int a.toInt8.toInt32 :: s) h) := rfl
theorem e89_6 : exq sa F N S rt cd89 P Q 6 L st h = (tI st fun v s => s = [] ∧ (rt = some .int ∨ (rt = some .boolean ∧ (v = 0 ∨ v = 1))) ∧ Q (some (.int v)) h) := rfl
theorem e89_7 : exq sa F N S rt cd89 P Q 7 L st h = (ldI L 0 fun v => P 8 L (.int v :: st) h) := rfl
theorem e89_8 : exq sa F N S rt cd89 P Q 8 L st h = (P 9 L (.int (Int32.ofInt (1)) :: st) h) := rfl
theorem e89_9 : exq sa F N S rt cd89 P Q 9 L st h = (tI st fun b s => tI s fun a s => br (a = b) (P 12 L s h) (P 17 L s h)) := rfl
theorem e89_12 : exq sa F N S rt cd89 P Q 12 L st h = (ldI L 1 fun v => P 13 L (.int v :: st) h) := rfl
theorem e89_13 : exq sa F N S rt cd89 P Q 13 L st h = (tI st fun a s => P 14 L (.int a.toInt16.toInt32 :: s) h) := rfl
theorem e89_14 : exq sa F N S rt cd89 P Q 14 L st h = (P 18 L st h) := rfl
theorem e89_17 : exq sa F N S rt cd89 P Q 17 L st h = (ldI L 1 fun v => P 18 L (.int v :: st) h) := rfl
theorem e89_18 : exq sa F N S rt cd89 P Q 18 L st h = (tI st fun v s => s = [] ∧ (rt = some .int ∨ (rt = some .boolean ∧ (v = 0 ∨ v = 1))) ∧ Q (some (.int v)) h) := rfl
theorem e90_0 : exq sa F N S rt cd90 P Q 0 L st h = (ldR L 0 fun v => P 1 L (v :: st) h) := rfl
theorem e90_1 : exq sa F N S rt cd90 P Q 1 L st h = (ex1 sa F N S rt P Q 1 L st h (.invokespecial 1) 3 0 1 0) := rfl
theorem e90_4 : exq sa F N S rt cd90 P Q 4 L st h = (ldR L 0 fun v => P 5 L (v :: st) h) := rfl
theorem e90_5 : exq sa F N S rt cd90 P Q 5 L st h = (ex1 sa F N S rt P Q 5 L st h (.new 7) 5 3 0 0) := rfl
theorem e90_8 : exq sa F N S rt cd90 P Q 8 L st h = (du1 st fun v s => P 9 L (v :: v :: s) h) := rfl
theorem e90_9 : exq sa F N S rt cd90 P Q 9 L st h = (ex1 sa F N S rt P Q 9 L st h (.invokespecial 9) 12 78 1 5) := rfl
theorem e90_12 : exq sa F N S rt cd90 P Q 12 L st h = (pfd st h 6 0 2 fun s h' => P 15 L s h') := rfl
theorem e90_15 : exq sa F N S rt cd90 P Q 15 L st h = (ldR L 0 fun v => P 16 L (v :: st) h) := rfl
theorem e90_16 : exq sa F N S rt cd90 P Q 16 L st h = (ex1 sa F N S rt P Q 16 L st h (.new 16) 4 6 0 0) := rfl
theorem e90_19 : exq sa F N S rt cd90 P Q 19 L st h = (du1 st fun v s => P 20 L (v :: v :: s) h) := rfl
theorem e90_20 : exq sa F N S rt cd90 P Q 20 L st h = (ex1 sa F N S rt P Q 20 L st h (.invokespecial 18) 12 63 1 4) := rfl
theorem e90_23 : exq sa F N S rt cd90 P Q 23 L st h = (pfd st h 6 1 2 fun s h' => P 26 L s h') := rfl
theorem e90_26 : exq sa F N S rt cd90 P Q 26 L st h = (ldR L 0 fun v => P 27 L (v :: st) h) := rfl
theorem e90_27 : exq sa F N S rt cd90 P Q 27 L st h = (ex1 sa F N S rt P Q 27 L st h (.new 23) 2 15 0 0) := rfl
theorem e90_30 : exq sa F N S rt cd90 P Q 30 L st h = (du1 st fun v s => P 31 L (v :: v :: s) h) := rfl
theorem e90_31 : exq sa F N S rt cd90 P Q 31 L st h = (ex1 sa F N S rt P Q 31 L st h (.invokespecial 25) 12 11 1 2) := rfl
theorem e90_34 : exq sa F N S rt cd90 P Q 34 L st h = (pfd st h 6 2 2 fun s h' => P 37 L s h') := rfl
theorem e90_37 : exq sa F N S rt cd90 P Q 37 L st h = (ldR L 0 fun v => P 38 L (v :: st) h) := rfl
theorem e90_38 : exq sa F N S rt cd90 P Q 38 L st h = (ex1 sa F N S rt P Q 38 L st h (.new 30) 0 3 0 0) := rfl
theorem e90_41 : exq sa F N S rt cd90 P Q 41 L st h = (du1 st fun v s => P 42 L (v :: v :: s) h) := rfl
theorem e90_42 : exq sa F N S rt cd90 P Q 42 L st h = (ex1 sa F N S rt P Q 42 L st h (.invokespecial 32) 2 0 1 0) := rfl
theorem e90_45 : exq sa F N S rt cd90 P Q 45 L st h = (pfd st h 6 3 2 fun s h' => P 48 L s h') := rfl
theorem e90_48 : exq sa F N S rt cd90 P Q 48 L st h = (ldR L 0 fun v => P 49 L (v :: st) h) := rfl
theorem e90_49 : exq sa F N S rt cd90 P Q 49 L st h = (ex1 sa F N S rt P Q 49 L st h (.new 37) 3 6 0 0) := rfl
theorem e90_52 : exq sa F N S rt cd90 P Q 52 L st h = (du1 st fun v s => P 53 L (v :: v :: s) h) := rfl
theorem e90_53 : exq sa F N S rt cd90 P Q 53 L st h = (ex1 sa F N S rt P Q 53 L st h (.invokespecial 39) 12 39 1 3) := rfl
theorem e90_56 : exq sa F N S rt cd90 P Q 56 L st h = (pfd st h 6 4 2 fun s h' => P 59 L s h') := rfl
theorem e90_59 : exq sa F N S rt cd90 P Q 59 L st h = (ldR L 0 fun v => P 60 L (v :: st) h) := rfl
theorem e90_60 : exq sa F N S rt cd90 P Q 60 L st h = (P 61 L (.int (Int32.ofInt (2)) :: st) h) := rfl
theorem e90_61 : exq sa F N S rt cd90 P Q 61 L st h = (ex1 sa F N S rt P Q 61 L st h (.anewarray 23) 0 0 0 0) := rfl
theorem e90_64 : exq sa F N S rt cd90 P Q 64 L st h = (du1 st fun v s => P 65 L (v :: v :: s) h) := rfl
theorem e90_65 : exq sa F N S rt cd90 P Q 65 L st h = (P 66 L (.int (Int32.ofInt (0)) :: st) h) := rfl
theorem e90_66 : exq sa F N S rt cd90 P Q 66 L st h = (ex1 sa F N S rt P Q 66 L st h (.new 23) 2 15 0 0) := rfl
theorem e90_69 : exq sa F N S rt cd90 P Q 69 L st h = (du1 st fun v s => P 70 L (v :: v :: s) h) := rfl
theorem e90_70 : exq sa F N S rt cd90 P Q 70 L st h = (ex1 sa F N S rt P Q 70 L st h (.invokespecial 25) 12 11 1 2) := rfl
theorem e90_73 : exq sa F N S rt cd90 P Q 73 L st h = (ex1 sa F N S rt P Q 73 L st h (.aastore) 0 0 0 0) := rfl
theorem e90_74 : exq sa F N S rt cd90 P Q 74 L st h = (du1 st fun v s => P 75 L (v :: v :: s) h) := rfl
theorem e90_75 : exq sa F N S rt cd90 P Q 75 L st h = (P 76 L (.int (Int32.ofInt (1)) :: st) h) := rfl
theorem e90_76 : exq sa F N S rt cd90 P Q 76 L st h = (ex1 sa F N S rt P Q 76 L st h (.new 23) 2 15 0 0) := rfl
theorem e90_79 : exq sa F N S rt cd90 P Q 79 L st h = (du1 st fun v s => P 80 L (v :: v :: s) h) := rfl
theorem e90_80 : exq sa F N S rt cd90 P Q 80 L st h = (ex1 sa F N S rt P Q 80 L st h (.invokespecial 25) 12 11 1 2) := rfl
theorem e90_83 : exq sa F N S rt cd90 P Q 83 L st h = (ex1 sa F N S rt P Q 83 L st h (.aastore) 0 0 0 0) := rfl
theorem e90_84 : exq sa F N S rt cd90 P Q 84 L st h = (pfd st h 6 5 2 fun s h' => P 87 L s h') := rfl
theorem e90_87 : exq sa F N S rt cd90 P Q 87 L st h = (ldR L 0 fun v => P 88 L (v :: st) h) := rfl
theorem e90_88 : exq sa F N S rt cd90 P Q 88 L st h = (ex1 sa F N S rt P Q 88 L st h (.new 48) 1 6 0 0) := rfl
theorem e90_91 : exq sa F N S rt cd90 P Q 91 L st h = (du1 st fun v s => P 92 L (v :: v :: s) h) := rfl
theorem e90_92 : exq sa F N S rt cd90 P Q 92 L st h = (ex1 sa F N S rt P Q 92 L st h (.invokespecial 50) 12 4 1 1) := rfl
theorem e90_95 : exq sa F N S rt cd90 P Q 95 L st h = (pfd st h 6 6 2 fun s h' => P 98 L s h') := rfl
theorem e90_98 : exq sa F N S rt cd90 P Q 98 L st h = (st = [] ∧ rt = none ∧ Q none h) := rfl
theorem e91_0 : exq sa F N S rt cd91 P Q 0 L st h = (ldI L 1 fun v => P 1 L (.int v :: st) h) := rfl
theorem e91_1 : exq sa F N S rt cd91 P Q 1 L st h = (ivS F 79 1 st h fun r s h' => P 4 L (pu r s) h') := rfl
theorem e91_4 : exq sa F N S rt cd91 P Q 4 L st h = (tI st fun a s => br (a = 0) (P 22 L s h) (P 7 L s h)) := rfl
theorem e91_7 : exq sa F N S rt cd91 P Q 7 L st h = (ldI L 2 fun v => P 8 L (.int v :: st) h) := rfl
theorem e91_8 : exq sa F N S rt cd91 P Q 8 L st h = (P 9 L (.int (Int32.ofInt (0)) :: st) h) := rfl
theorem e91_9 : exq sa F N S rt cd91 P Q 9 L st h = (P 10 L (.int (Int32.ofInt (2)) :: st) h) := rfl
theorem e91_10 : exq sa F N S rt cd91 P Q 10 L st h = (ivS F 131 3 st h fun r s h' => P 13 L (pu r s) h') := rfl
theorem e91_13 : exq sa F N S rt cd91 P Q 13 L st h = (tI st fun a s => br (a = 0) (P 22 L s h) (P 16 L s h)) := rfl
theorem e91_16 : exq sa F N S rt cd91 P Q 16 L st h = (ldI L 3 fun v => P 17 L (.int v :: st) h) := rfl
theorem e91_17 : exq sa F N S rt cd91 P Q 17 L st h = (P 19 L (.int (Int32.ofInt (40)) :: st) h) := rfl
theorem e91_19 : exq sa F N S rt cd91 P Q 19 L st h = (tI st fun b s => tI s fun a s => br (a ≤ b) (P 25 L s h) (P 22 L s h)) := rfl
theorem e91_22 : exq sa F N S rt cd91 P Q 22 L st h = (P 24 L (.int (Int32.ofInt (-1000001)) :: st) h) := rfl
theorem e91_24 : exq sa F N S rt cd91 P Q 24 L st h = (tI st fun v s => s = [] ∧ (rt = some .int ∨ (rt = some .boolean ∧ (v = 0 ∨ v = 1))) ∧ Q (some (.int v)) h) := rfl
theorem e91_25 : exq sa F N S rt cd91 P Q 25 L st h = (ldI L 3 fun v => P 26 L (.int v :: st) h) := rfl
theorem e91_26 : exq sa F N S rt cd91 P Q 26 L st h = (tI st fun a s => br (0 ≤ a) (P 35 L s h) (P 29 L s h)) := rfl
theorem e91_29 : exq sa F N S rt cd91 P Q 29 L st h = (ldR L 0 fun v => P 30 L (v :: st) h) := rfl
theorem e91_30 : exq sa F N S rt cd91 P Q 30 L st h = (P 31 L (.int (Int32.ofInt (4)) :: st) h) := rfl
theorem e91_31 : exq sa F N S rt cd91 P Q 31 L st h = (ivV F 129 2 6 st h fun r s h' => P 34 L (pu r s) h') := rfl
theorem e91_34 : exq sa F N S rt cd91 P Q 34 L st h = (tI st fun v s => s = [] ∧ (rt = some .int ∨ (rt = some .boolean ∧ (v = 0 ∨ v = 1))) ∧ Q (some (.int v)) h) := rfl
theorem e91_35 : exq sa F N S rt cd91 P Q 35 L st h = (ldR L 0 fun v => P 36 L (v :: st) h) := rfl
theorem e91_36 : exq sa F N S rt cd91 P Q 36 L st h = (tR st fun a s => opt (hO h a 6) fun fs => opt (fs[0]?) fun v => P 39 L (v :: s) h) := rfl
theorem e91_39 : exq sa F N S rt cd91 P Q 39 L st h = (ldI L 1 fun v => P 40 L (.int v :: st) h) := rfl
theorem e91_40 : exq sa F N S rt cd91 P Q 40 L st h = (ldI L 2 fun v => P 41 L (.int v :: st) h) := rfl
theorem e91_41 : exq sa F N S rt cd91 P Q 41 L st h = (ldI L 3 fun v => P 42 L (.int v :: st) h) := rfl
theorem e91_42 : exq sa F N S rt cd91 P Q 42 L st h = (ivV F 82 4 5 st h fun r s h' => P 45 L (pu r s) h') := rfl
theorem e91_45 : exq sa F N S rt cd91 P Q 45 L st h = (ldR L 0 fun v => P 46 L (v :: st) h) := rfl
theorem e91_46 : exq sa F N S rt cd91 P Q 46 L st h = (ldI L 3 fun v => P 47 L (.int v :: st) h) := rfl
theorem e91_47 : exq sa F N S rt cd91 P Q 47 L st h = (ivV F 130 2 6 st h fun r s h' => P 50 L (pu r s) h') := rfl
theorem e91_50 : exq sa F N S rt cd91 P Q 50 L st h = (tI st fun v s => s = [] ∧ (rt = some .int ∨ (rt = some .boolean ∧ (v = 0 ∨ v = 1))) ∧ Q (some (.int v)) h) := rfl
theorem e92_0 : exq sa F N S rt cd92 P Q 0 L st h = (ldI L 1 fun v => P 1 L (.int v :: st) h) := rfl
theorem e92_1 : exq sa F N S rt cd92 P Q 1 L st h = (ivS F 79 1 st h fun r s h' => P 4 L (pu r s) h') := rfl
theorem e92_4 : exq sa F N S rt cd92 P Q 4 L st h = (tI st fun a s => br (a = 0) (P 7 L s h) (P 10 L s h)) := rfl
theorem e92_7 : exq sa F N S rt cd92 P Q 7 L st h = (P 9 L (.int (Int32.ofInt (-1000001)) :: st) h) := rfl
theorem e92_9 : exq sa F N S rt cd92 P Q 9 L st h = (tI st fun v s => s = [] ∧ (rt = some .int ∨ (rt = some .boolean ∧ (v = 0 ∨ v = 1))) ∧ Q (some (.int v)) h) := rfl
theorem e92_10 : exq sa F N S rt cd92 P Q 10 L st h = (ldR L 0 fun v => P 11 L (v :: st) h) := rfl
theorem e92_11 : exq sa F N S rt cd92 P Q 11 L st h = (tR st fun a s => opt (hO h a 6) fun fs => opt (fs[0]?) fun v => P 14 L (v :: s) h) := rfl
theorem e92_14 : exq sa F N S rt cd92 P Q 14 L st h = (ldI L 1 fun v => P 15 L (.int v :: st) h) := rfl
theorem e92_15 : exq sa F N S rt cd92 P Q 15 L st h = (ldI L 2 fun v => P 16 L (.int v :: st) h) := rfl
theorem e92_16 : exq sa F N S rt cd92 P Q 16 L st h = (P 17 L (.int (Int32.ofInt (1)) :: st) h) := rfl
theorem e92_17 : exq sa F N S rt cd92 P Q 17 L st h = (ivV F 86 4 5 st h fun r s h' => P 20 L (pu r s) h') := rfl
theorem e92_20 : exq sa F N S rt cd92 P Q 20 L st h = (tI st fun v s => lvS L 4 (.int v) fun L' => P 22 L' s h) := rfl
theorem e92_22 : exq sa F N S rt cd92 P Q 22 L st h = (ldI L 4 fun v => P 24 L (.int v :: st) h) := rfl
theorem e92_24 : exq sa F N S rt cd92 P Q 24 L st h = (tI st fun a s => br (a = 0) (P 34 L s h) (P 27 L s h)) := rfl
theorem e92_27 : exq sa F N S rt cd92 P Q 27 L st h = (ldR L 0 fun v => P 28 L (v :: st) h) := rfl
theorem e92_28 : exq sa F N S rt cd92 P Q 28 L st h = (ldI L 4 fun v => P 30 L (.int v :: st) h) := rfl
theorem e92_30 : exq sa F N S rt cd92 P Q 30 L st h = (ivV F 129 2 6 st h fun r s h' => P 33 L (pu r s) h') := rfl
theorem e92_33 : exq sa F N S rt cd92 P Q 33 L st h = (tI st fun v s => s = [] ∧ (rt = some .int ∨ (rt = some .boolean ∧ (v = 0 ∨ v = 1))) ∧ Q (some (.int v)) h) := rfl
theorem e92_34 : exq sa F N S rt cd92 P Q 34 L st h = (ldR L 0 fun v => P 35 L (v :: st) h) := rfl
theorem e92_35 : exq sa F N S rt cd92 P Q 35 L st h = (ldR L 0 fun v => P 36 L (v :: st) h) := rfl
theorem e92_36 : exq sa F N S rt cd92 P Q 36 L st h = (tR st fun a s => opt (hO h a 6) fun fs => opt (fs[0]?) fun v => P 39 L (v :: s) h) := rfl
theorem e92_39 : exq sa F N S rt cd92 P Q 39 L st h = (ldI L 1 fun v => P 40 L (.int v :: st) h) := rfl
theorem e92_40 : exq sa F N S rt cd92 P Q 40 L st h = (ldI L 2 fun v => P 41 L (.int v :: st) h) := rfl
theorem e92_41 : exq sa F N S rt cd92 P Q 41 L st h = (ldI L 3 fun v => P 42 L (.int v :: st) h) := rfl
theorem e92_42 : exq sa F N S rt cd92 P Q 42 L st h = (ivV F 84 4 5 st h fun r s h' => P 45 L (pu r s) h') := rfl
theorem e92_45 : exq sa F N S rt cd92 P Q 45 L st h = (ivV F 130 2 6 st h fun r s h' => P 48 L (pu r s) h') := rfl
theorem e92_48 : exq sa F N S rt cd92 P Q 48 L st h = (tI st fun v s => s = [] ∧ (rt = some .int ∨ (rt = some .boolean ∧ (v = 0 ∨ v = 1))) ∧ Q (some (.int v)) h) := rfl
theorem e93_0 : exq sa F N S rt cd93 P Q 0 L st h = (ldI L 1 fun v => P 1 L (.int v :: st) h) := rfl
theorem e93_1 : exq sa F N S rt cd93 P Q 1 L st h = (ivS F 79 1 st h fun r s h' => P 4 L (pu r s) h') := rfl
theorem e93_4 : exq sa F N S rt cd93 P Q 4 L st h = (tI st fun a s => br (a = 0) (P 14 L s h) (P 7 L s h)) := rfl
theorem e93_7 : exq sa F N S rt cd93 P Q 7 L st h = (ldI L 3 fun v => P 8 L (.int v :: st) h) := rfl
theorem e93_8 : exq sa F N S rt cd93 P Q 8 L st h = (ivS F 79 1 st h fun r s h' => P 11 L (pu r s) h') := rfl
theorem e93_11 : exq sa F N S rt cd93 P Q 11 L st h = (tI st fun a s => br (a = 0) (P 14 L s h) (P 17 L s h)) := rfl
theorem e93_14 : exq sa F N S rt cd93 P Q 14 L st h = (P 16 L (.int (Int32.ofInt (-1000001)) :: st) h) := rfl
theorem e93_16 : exq sa F N S rt cd93 P Q 16 L st h = (tI st fun v s => s = [] ∧ (rt = some .int ∨ (rt = some .boolean ∧ (v = 0 ∨ v = 1))) ∧ Q (some (.int v)) h) := rfl
theorem e93_17 : exq sa F N S rt cd93 P Q 17 L st h = (ldR L 0 fun v => P 18 L (v :: st) h) := rfl
theorem e93_18 : exq sa F N S rt cd93 P Q 18 L st h = (tR st fun a s => opt (hO h a 6) fun fs => opt (fs[0]?) fun v => P 21 L (v :: s) h) := rfl
theorem e93_21 : exq sa F N S rt cd93 P Q 21 L st h = (ldI L 1 fun v => P 22 L (.int v :: st) h) := rfl
theorem e93_22 : exq sa F N S rt cd93 P Q 22 L st h = (ldI L 2 fun v => P 23 L (.int v :: st) h) := rfl
theorem e93_23 : exq sa F N S rt cd93 P Q 23 L st h = (ldI L 3 fun v => P 24 L (.int v :: st) h) := rfl
theorem e93_24 : exq sa F N S rt cd93 P Q 24 L st h = (ldI L 4 fun v => P 26 L (.int v :: st) h) := rfl
theorem e93_26 : exq sa F N S rt cd93 P Q 26 L st h = (ldI L 5 fun v => P 28 L (.int v :: st) h) := rfl
theorem e93_28 : exq sa F N S rt cd93 P Q 28 L st h = (ivV F 87 6 5 st h fun r s h' => P 31 L (pu r s) h') := rfl
theorem e93_31 : exq sa F N S rt cd93 P Q 31 L st h = (tI st fun v s => lvS L 6 (.int v) fun L' => P 33 L' s h) := rfl
theorem e93_33 : exq sa F N S rt cd93 P Q 33 L st h = (ldI L 6 fun v => P 35 L (.int v :: st) h) := rfl
theorem e93_35 : exq sa F N S rt cd93 P Q 35 L st h = (tI st fun a s => br (a = 0) (P 45 L s h) (P 38 L s h)) := rfl
theorem e93_38 : exq sa F N S rt cd93 P Q 38 L st h = (ldR L 0 fun v => P 39 L (v :: st) h) := rfl
theorem e93_39 : exq sa F N S rt cd93 P Q 39 L st h = (ldI L 6 fun v => P 41 L (.int v :: st) h) := rfl
theorem e93_41 : exq sa F N S rt cd93 P Q 41 L st h = (ivV F 129 2 6 st h fun r s h' => P 44 L (pu r s) h') := rfl
theorem e93_44 : exq sa F N S rt cd93 P Q 44 L st h = (tI st fun v s => s = [] ∧ (rt = some .int ∨ (rt = some .boolean ∧ (v = 0 ∨ v = 1))) ∧ Q (some (.int v)) h) := rfl
theorem e93_45 : exq sa F N S rt cd93 P Q 45 L st h = (ldR L 0 fun v => P 46 L (v :: st) h) := rfl
theorem e93_46 : exq sa F N S rt cd93 P Q 46 L st h = (tR st fun a s => opt (hO h a 6) fun fs => opt (fs[0]?) fun v => P 49 L (v :: s) h) := rfl
theorem e93_49 : exq sa F N S rt cd93 P Q 49 L st h = (ldI L 1 fun v => P 50 L (.int v :: st) h) := rfl
theorem e93_50 : exq sa F N S rt cd93 P Q 50 L st h = (ldI L 2 fun v => P 51 L (.int v :: st) h) := rfl
theorem e93_51 : exq sa F N S rt cd93 P Q 51 L st h = (ldI L 3 fun v => P 52 L (.int v :: st) h) := rfl
theorem e93_52 : exq sa F N S rt cd93 P Q 52 L st h = (ldI L 4 fun v => P 54 L (.int v :: st) h) := rfl
theorem e93_54 : exq sa F N S rt cd93 P Q 54 L st h = (ldI L 5 fun v => P 56 L (.int v :: st) h) := rfl
theorem e93_56 : exq sa F N S rt cd93 P Q 56 L st h = (ivV F 85 6 5 st h fun r s h' => P 59 L (pu r s) h') := rfl
theorem e93_59 : exq sa F N S rt cd93 P Q 59 L st h = (ldR L 0 fun v => P 60 L (v :: st) h) := rfl
theorem e93_60 : exq sa F N S rt cd93 P Q 60 L st h = (ldI L 5 fun v => P 62 L (.int v :: st) h) := rfl
theorem e93_62 : exq sa F N S rt cd93 P Q 62 L st h = (ivV F 130 2 6 st h fun r s h' => P 65 L (pu r s) h') := rfl
theorem e93_65 : exq sa F N S rt cd93 P Q 65 L st h = (tI st fun v s => s = [] ∧ (rt = some .int ∨ (rt = some .boolean ∧ (v = 0 ∨ v = 1))) ∧ Q (some (.int v)) h) := rfl
theorem e94_0 : exq sa F N S rt cd94 P Q 0 L st h = (ldI L 1 fun v => P 1 L (.int v :: st) h) := rfl
theorem e94_1 : exq sa F N S rt cd94 P Q 1 L st h = (ivS F 79 1 st h fun r s h' => P 4 L (pu r s) h') := rfl
theorem e94_4 : exq sa F N S rt cd94 P Q 4 L st h = (tI st fun a s => br (a = 0) (P 7 L s h) (P 10 L s h)) := rfl
theorem e94_7 : exq sa F N S rt cd94 P Q 7 L st h = (P 9 L (.int (Int32.ofInt (-1000001)) :: st) h) := rfl
theorem e94_9 : exq sa F N S rt cd94 P Q 9 L st h = (tI st fun v s => s = [] ∧ (rt = some .int ∨ (rt = some .boolean ∧ (v = 0 ∨ v = 1))) ∧ Q (some (.int v)) h) := rfl
theorem e94_10 : exq sa F N S rt cd94 P Q 10 L st h = (ldR L 0 fun v => P 11 L (v :: st) h) := rfl
theorem e94_11 : exq sa F N S rt cd94 P Q 11 L st h = (tR st fun a s => opt (hO h a 6) fun fs => opt (fs[0]?) fun v => P 14 L (v :: s) h) := rfl
theorem e94_14 : exq sa F N S rt cd94 P Q 14 L st h = (ldI L 1 fun v => P 15 L (.int v :: st) h) := rfl
theorem e94_15 : exq sa F N S rt cd94 P Q 15 L st h = (ivV F 80 2 5 st h fun r s h' => P 18 L (pu r s) h') := rfl
theorem e94_18 : exq sa F N S rt cd94 P Q 18 L st h = (tI st fun a s => br (a = 0) (P 27 L s h) (P 21 L s h)) := rfl
theorem e94_21 : exq sa F N S rt cd94 P Q 21 L st h = (ldR L 0 fun v => P 22 L (v :: st) h) := rfl
theorem e94_22 : exq sa F N S rt cd94 P Q 22 L st h = (P 23 L (.int (Int32.ofInt (1)) :: st) h) := rfl
theorem e94_23 : exq sa F N S rt cd94 P Q 23 L st h = (ivV F 129 2 6 st h fun r s h' => P 26 L (pu r s) h') := rfl
theorem e94_26 : exq sa F N S rt cd94 P Q 26 L st h = (tI st fun v s => s = [] ∧ (rt = some .int ∨ (rt = some .boolean ∧ (v = 0 ∨ v = 1))) ∧ Q (some (.int v)) h) := rfl
theorem e94_27 : exq sa F N S rt cd94 P Q 27 L st h = (ldR L 0 fun v => P 28 L (v :: st) h) := rfl
theorem e94_28 : exq sa F N S rt cd94 P Q 28 L st h = (ldR L 0 fun v => P 29 L (v :: st) h) := rfl
theorem e94_29 : exq sa F N S rt cd94 P Q 29 L st h = (tR st fun a s => opt (hO h a 6) fun fs => opt (fs[0]?) fun v => P 32 L (v :: s) h) := rfl
theorem e94_32 : exq sa F N S rt cd94 P Q 32 L st h = (ldI L 1 fun v => P 33 L (.int v :: st) h) := rfl
theorem e94_33 : exq sa F N S rt cd94 P Q 33 L st h = (ivV F 83 2 5 st h fun r s h' => P 36 L (pu r s) h') := rfl
theorem e94_36 : exq sa F N S rt cd94 P Q 36 L st h = (ivV F 130 2 6 st h fun r s h' => P 39 L (pu r s) h') := rfl
theorem e94_39 : exq sa F N S rt cd94 P Q 39 L st h = (tI st fun v s => s = [] ∧ (rt = some .int ∨ (rt = some .boolean ∧ (v = 0 ∨ v = 1))) ∧ Q (some (.int v)) h) := rfl
theorem e95_0 : exq sa F N S rt cd95 P Q 0 L st h = (ldI L 1 fun v => P 1 L (.int v :: st) h) := rfl
theorem e95_1 : exq sa F N S rt cd95 P Q 1 L st h = (P 2 L (.int (Int32.ofInt (0)) :: st) h) := rfl
theorem e95_2 : exq sa F N S rt cd95 P Q 2 L st h = (P 5 L (.int (Int32.ofInt (255)) :: st) h) := rfl
theorem e95_5 : exq sa F N S rt cd95 P Q 5 L st h = (ivS F 131 3 st h fun r s h' => P 8 L (pu r s) h') := rfl
theorem e95_8 : exq sa F N S rt cd95 P Q 8 L st h = (tI st fun a s => br (a = 0) (P 11 L s h) (P 14 L s h)) := rfl
theorem e95_11 : exq sa F N S rt cd95 P Q 11 L st h = (P 13 L (.int (Int32.ofInt (-1000001)) :: st) h) := rfl
theorem e95_13 : exq sa F N S rt cd95 P Q 13 L st h = (tI st fun v s => s = [] ∧ (rt = some .int ∨ (rt = some .boolean ∧ (v = 0 ∨ v = 1))) ∧ Q (some (.int v)) h) := rfl
theorem e95_14 : exq sa F N S rt cd95 P Q 14 L st h = (ldR L 0 fun v => P 15 L (v :: st) h) := rfl
theorem e95_15 : exq sa F N S rt cd95 P Q 15 L st h = (tR st fun a s => opt (hO h a 6) fun fs => opt (fs[1]?) fun v => P 18 L (v :: s) h) := rfl
theorem e95_18 : exq sa F N S rt cd95 P Q 18 L st h = (ldI L 1 fun v => P 19 L (.int v :: st) h) := rfl
theorem e95_19 : exq sa F N S rt cd95 P Q 19 L st h = (ivV F 64 2 4 st h fun r s h' => P 22 L (pu r s) h') := rfl
theorem e95_22 : exq sa F N S rt cd95 P Q 22 L st h = (tI st fun a s => br (a = 0) (P 35 L s h) (P 25 L s h)) := rfl
theorem e95_25 : exq sa F N S rt cd95 P Q 25 L st h = (ldR L 0 fun v => P 26 L (v :: st) h) := rfl
theorem e95_26 : exq sa F N S rt cd95 P Q 26 L st h = (tR st fun a s => opt (hO h a 6) fun fs => opt (fs[1]?) fun v => P 29 L (v :: s) h) := rfl
theorem e95_29 : exq sa F N S rt cd95 P Q 29 L st h = (tR st fun a s => opt (hO h a 4) fun fs => opt (fs[2]?) fun v => P 32 L (v :: s) h) := rfl
theorem e95_32 : exq sa F N S rt cd95 P Q 32 L st h = (P 37 L st h) := rfl
theorem e95_35 : exq sa F N S rt cd95 P Q 35 L st h = (P 37 L (.int (Int32.ofInt (-1000003)) :: st) h) := rfl
theorem e95_37 : exq sa F N S rt cd95 P Q 37 L st h = (tI st fun v s => s = [] ∧ (rt = some .int ∨ (rt = some .boolean ∧ (v = 0 ∨ v = 1))) ∧ Q (some (.int v)) h) := rfl
theorem e96_0 : exq sa F N S rt cd96 P Q 0 L st h = (ldR L 0 fun v => P 1 L (v :: st) h) := rfl
theorem e96_1 : exq sa F N S rt cd96 P Q 1 L st h = (tR st fun a s => opt (hO h a 6) fun fs => opt (fs[1]?) fun v => P 4 L (v :: s) h) := rfl
theorem e96_4 : exq sa F N S rt cd96 P Q 4 L st h = (ivV F 65 1 4 st h fun r s h' => P 7 L (pu r s) h') := rfl
theorem e96_7 : exq sa F N S rt cd96 P Q 7 L st h = (tI st fun v s => lvS L 1 (.int v) fun L' => P 8 L' s h) := rfl
theorem e96_8 : exq sa F N S rt cd96 P Q 8 L st h = (ldR L 0 fun v => P 9 L (v :: st) h) := rfl
theorem e96_9 : exq sa F N S rt cd96 P Q 9 L st h = (tR st fun a s => opt (hO h a 6) fun fs => opt (fs[1]?) fun v => P 12 L (v :: s) h) := rfl
theorem e96_12 : exq sa F N S rt cd96 P Q 12 L st h = (P 13 L (.int (Int32.ofInt (0)) :: st) h) := rfl
theorem e96_13 : exq sa F N S rt cd96 P Q 13 L st h = (pfd st h 4 2 0 fun s h' => P 16 L s h') := rfl
theorem e96_16 : exq sa F N S rt cd96 P Q 16 L st h = (ldI L 1 fun v => P 17 L (.int v :: st) h) := rfl
theorem e96_17 : exq sa F N S rt cd96 P Q 17 L st h = (tI st fun a s => br (a = 0) (P 20 L s h) (P 42 L s h)) := rfl
theorem e96_20 : exq sa F N S rt cd96 P Q 20 L st h = (ldR L 0 fun v => P 21 L (v :: st) h) := rfl
theorem e96_21 : exq sa F N S rt cd96 P Q 21 L st h = (ldR L 0 fun v => P 22 L (v :: st) h) := rfl
theorem e96_22 : exq sa F N S rt cd96 P Q 22 L st h = (tR st fun a s => opt (hO h a 6) fun fs => opt (fs[1]?) fun v => P 25 L (v :: s) h) := rfl
theorem e96_25 : exq sa F N S rt cd96 P Q 25 L st h = (tR st fun a s => opt (hO h a 4) fun fs => opt (fs[4]?) fun v => P 28 L (v :: s) h) := rfl
theorem e96_28 : exq sa F N S rt cd96 P Q 28 L st h = (pfd st h 6 7 0 fun s h' => P 31 L s h') := rfl
theorem e96_31 : exq sa F N S rt cd96 P Q 31 L st h = (P 33 L (.int (Int32.ofInt (-1000100)) :: st) h) := rfl
theorem e96_33 : exq sa F N S rt cd96 P Q 33 L st h = (ldR L 0 fun v => P 34 L (v :: st) h) := rfl
theorem e96_34 : exq sa F N S rt cd96 P Q 34 L st h = (tR st fun a s => opt (hO h a 6) fun fs => opt (fs[1]?) fun v => P 37 L (v :: s) h) := rfl
theorem e96_37 : exq sa F N S rt cd96 P Q 37 L st h = (tR st fun a s => opt (hO h a 4) fun fs => opt (fs[3]?) fun v => P 40 L (v :: s) h) := rfl
theorem e96_40 : exq sa F N S rt cd96 P Q 40 L st h = (tI st fun b s => tI s fun a s => P 41 L (.int (a - b) :: s) h) := rfl
theorem e96_41 : exq sa F N S rt cd96 P Q 41 L st h = (tI st fun v s => s = [] ∧ (rt = some .int ∨ (rt = some .boolean ∧ (v = 0 ∨ v = 1))) ∧ Q (some (.int v)) h) := rfl
theorem e96_42 : exq sa F N S rt cd96 P Q 42 L st h = (ldR L 0 fun v => P 43 L (v :: st) h) := rfl
theorem e96_43 : exq sa F N S rt cd96 P Q 43 L st h = (tR st fun a s => opt (hO h a 6) fun fs => opt (fs[2]?) fun v => P 46 L (v :: s) h) := rfl
theorem e96_46 : exq sa F N S rt cd96 P Q 46 L st h = (ldR L 0 fun v => P 47 L (v :: st) h) := rfl
theorem e96_47 : exq sa F N S rt cd96 P Q 47 L st h = (tR st fun a s => opt (hO h a 6) fun fs => opt (fs[1]?) fun v => P 50 L (v :: s) h) := rfl
theorem e96_50 : exq sa F N S rt cd96 P Q 50 L st h = (tR st fun a s => opt (hO h a 4) fun fs => opt (fs[0]?) fun v => P 53 L (v :: s) h) := rfl
theorem e96_53 : exq sa F N S rt cd96 P Q 53 L st h = (ivV F 15 2 2 st h fun r s h' => P 56 L (pu r s) h') := rfl
theorem e96_56 : exq sa F N S rt cd96 P Q 56 L st h = (ldR L 0 fun v => P 57 L (v :: st) h) := rfl
theorem e96_57 : exq sa F N S rt cd96 P Q 57 L st h = (tR st fun a s => opt (hO h a 6) fun fs => opt (fs[3]?) fun v => P 60 L (v :: s) h) := rfl
theorem e96_60 : exq sa F N S rt cd96 P Q 60 L st h = (ivV F 1 1 0 st h fun r s h' => P 63 L (pu r s) h') := rfl
theorem e96_63 : exq sa F N S rt cd96 P Q 63 L st h = (ldR L 0 fun v => P 64 L (v :: st) h) := rfl
theorem e96_64 : exq sa F N S rt cd96 P Q 64 L st h = (tR st fun a s => opt (hO h a 6) fun fs => opt (fs[2]?) fun v => P 67 L (v :: s) h) := rfl
theorem e96_67 : exq sa F N S rt cd96 P Q 67 L st h = (tR st fun a s => opt (hO h a 2) fun fs => opt (fs[3]?) fun v => P 70 L (v :: s) h) := rfl
theorem e96_70 : exq sa F N S rt cd96 P Q 70 L st h = (tI st fun v s => s = [] ∧ (rt = some .int ∨ (rt = some .boolean ∧ (v = 0 ∨ v = 1))) ∧ Q (some (.int v)) h) := rfl
theorem e97_0 : exq sa F N S rt cd97 P Q 0 L st h = (ldR L 0 fun v => P 1 L (v :: st) h) := rfl
theorem e97_1 : exq sa F N S rt cd97 P Q 1 L st h = (tR st fun a s => opt (hO h a 6) fun fs => opt (fs[7]?) fun v => P 4 L (v :: s) h) := rfl
theorem e97_4 : exq sa F N S rt cd97 P Q 4 L st h = (tI st fun v s => s = [] ∧ (rt = some .int ∨ (rt = some .boolean ∧ (v = 0 ∨ v = 1))) ∧ Q (some (.int v)) h) := rfl
theorem e98_0 : exq sa F N S rt cd98 P Q 0 L st h = (ldR L 0 fun v => P 1 L (v :: st) h) := rfl
theorem e98_1 : exq sa F N S rt cd98 P Q 1 L st h = (tR st fun a s => opt (hO h a 6) fun fs => opt (fs[3]?) fun v => P 4 L (v :: s) h) := rfl
theorem e98_4 : exq sa F N S rt cd98 P Q 4 L st h = (tR st fun a s => opt (hO h a 0) fun fs => opt (fs[2]?) fun v => P 7 L (v :: s) h) := rfl
theorem e98_7 : exq sa F N S rt cd98 P Q 7 L st h = (P 8 L (.int (Int32.ofInt (1)) :: st) h) := rfl
theorem e98_8 : exq sa F N S rt cd98 P Q 8 L st h = (tI st fun b s => tI s fun a s => br (b ≤ a) (P 14 L s h) (P 11 L s h)) := rfl
theorem e98_11 : exq sa F N S rt cd98 P Q 11 L st h = (P 13 L (.int (Int32.ofInt (-1000002)) :: st) h) := rfl
theorem e98_13 : exq sa F N S rt cd98 P Q 13 L st h = (tI st fun v s => s = [] ∧ (rt = some .int ∨ (rt = some .boolean ∧ (v = 0 ∨ v = 1))) ∧ Q (some (.int v)) h) := rfl
theorem e98_14 : exq sa F N S rt cd98 P Q 14 L st h = (ldR L 0 fun v => P 15 L (v :: st) h) := rfl
theorem e98_15 : exq sa F N S rt cd98 P Q 15 L st h = (tR st fun a s => opt (hO h a 6) fun fs => opt (fs[3]?) fun v => P 18 L (v :: s) h) := rfl
theorem e98_18 : exq sa F N S rt cd98 P Q 18 L st h = (ldR L 0 fun v => P 19 L (v :: st) h) := rfl
theorem e98_19 : exq sa F N S rt cd98 P Q 19 L st h = (tR st fun a s => opt (hO h a 6) fun fs => opt (fs[2]?) fun v => P 22 L (v :: s) h) := rfl
theorem e98_22 : exq sa F N S rt cd98 P Q 22 L st h = (ivV F 3 2 0 st h fun r s h' => P 25 L (pu r s) h') := rfl
theorem e98_25 : exq sa F N S rt cd98 P Q 25 L st h = (ldR L 0 fun v => P 26 L (v :: st) h) := rfl
theorem e98_26 : exq sa F N S rt cd98 P Q 26 L st h = (tR st fun a s => opt (hO h a 6) fun fs => opt (fs[3]?) fun v => P 29 L (v :: s) h) := rfl
theorem e98_29 : exq sa F N S rt cd98 P Q 29 L st h = (tR st fun a s => opt (hO h a 0) fun fs => opt (fs[2]?) fun v => P 32 L (v :: s) h) := rfl
theorem e98_32 : exq sa F N S rt cd98 P Q 32 L st h = (tI st fun v s => s = [] ∧ (rt = some .int ∨ (rt = some .boolean ∧ (v = 0 ∨ v = 1))) ∧ Q (some (.int v)) h) := rfl
theorem e99_0 : exq sa F N S rt cd99 P Q 0 L st h = (ldR L 0 fun v => P 1 L (v :: st) h) := rfl
theorem e99_1 : exq sa F N S rt cd99 P Q 1 L st h = (tR st fun a s => opt (hO h a 6) fun fs => opt (fs[2]?) fun v => P 4 L (v :: s) h) := rfl
theorem e99_4 : exq sa F N S rt cd99 P Q 4 L st h = (ivV F 16 1 2 st h fun r s h' => P 7 L (pu r s) h') := rfl
theorem e99_7 : exq sa F N S rt cd99 P Q 7 L st h = (tI st fun a s => br (a = 0) (P 10 L s h) (P 13 L s h)) := rfl
theorem e99_10 : exq sa F N S rt cd99 P Q 10 L st h = (P 12 L (.int (Int32.ofInt (-1000002)) :: st) h) := rfl
theorem e99_12 : exq sa F N S rt cd99 P Q 12 L st h = (tI st fun v s => s = [] ∧ (rt = some .int ∨ (rt = some .boolean ∧ (v = 0 ∨ v = 1))) ∧ Q (some (.int v)) h) := rfl
theorem e99_13 : exq sa F N S rt cd99 P Q 13 L st h = (ldI L 1 fun v => P 14 L (.int v :: st) h) := rfl
theorem e99_14 : exq sa F N S rt cd99 P Q 14 L st h = (P 15 L (.int (Int32.ofInt (1)) :: st) h) := rfl
theorem e99_15 : exq sa F N S rt cd99 P Q 15 L st h = (P 17 L (.int (Int32.ofInt (24)) :: st) h) := rfl
theorem e99_17 : exq sa F N S rt cd99 P Q 17 L st h = (ivS F 131 3 st h fun r s h' => P 20 L (pu r s) h') := rfl
theorem e99_20 : exq sa F N S rt cd99 P Q 20 L st h = (tI st fun a s => br (a = 0) (P 23 L s h) (P 26 L s h)) := rfl
theorem e99_23 : exq sa F N S rt cd99 P Q 23 L st h = (P 25 L (.int (Int32.ofInt (-1000001)) :: st) h) := rfl
theorem e99_25 : exq sa F N S rt cd99 P Q 25 L st h = (tI st fun v s => s = [] ∧ (rt = some .int ∨ (rt = some .boolean ∧ (v = 0 ∨ v = 1))) ∧ Q (some (.int v)) h) := rfl
theorem e99_26 : exq sa F N S rt cd99 P Q 26 L st h = (ldR L 0 fun v => P 27 L (v :: st) h) := rfl
theorem e99_27 : exq sa F N S rt cd99 P Q 27 L st h = (tR st fun a s => opt (hO h a 6) fun fs => opt (fs[2]?) fun v => P 30 L (v :: s) h) := rfl
theorem e99_30 : exq sa F N S rt cd99 P Q 30 L st h = (tR st fun a s => opt (hO h a 2) fun fs => opt (fs[2]?) fun v => P 33 L (v :: s) h) := rfl
theorem e99_33 : exq sa F N S rt cd99 P Q 33 L st h = (ldI L 1 fun v => P 34 L (.int v :: st) h) := rfl
theorem e99_34 : exq sa F N S rt cd99 P Q 34 L st h = (tI st fun b s => tI s fun a s => P 35 L (.int (a + b) :: s) h) := rfl
theorem e99_35 : exq sa F N S rt cd99 P Q 35 L st h = (P 38 L (.int (Int32.ofInt (999)) :: st) h) := rfl
theorem e99_38 : exq sa F N S rt cd99 P Q 38 L st h = (tI st fun b s => tI s fun a s => br (a ≤ b) (P 44 L s h) (P 41 L s h)) := rfl
theorem e99_41 : exq sa F N S rt cd99 P Q 41 L st h = (P 43 L (.int (Int32.ofInt (-1000003)) :: st) h) := rfl
theorem e99_43 : exq sa F N S rt cd99 P Q 43 L st h = (tI st fun v s => s = [] ∧ (rt = some .int ∨ (rt = some .boolean ∧ (v = 0 ∨ v = 1))) ∧ Q (some (.int v)) h) := rfl
theorem e99_44 : exq sa F N S rt cd99 P Q 44 L st h = (P 45 L (.int (Int32.ofInt (0)) :: st) h) := rfl
theorem e99_45 : exq sa F N S rt cd99 P Q 45 L st h = (tI st fun v s => lvS L 2 (.int v) fun L' => P 46 L' s h) := rfl
theorem e99_46 : exq sa F N S rt cd99 P Q 46 L st h = (ldI L 2 fun v => P 47 L (.int v :: st) h) := rfl
theorem e99_47 : exq sa F N S rt cd99 P Q 47 L st h = (ldI L 1 fun v => P 48 L (.int v :: st) h) := rfl
theorem e99_48 : exq sa F N S rt cd99 P Q 48 L st h = (tI st fun b s => tI s fun a s => br (b ≤ a) (P 76 L s h) (P 51 L s h)) := rfl
theorem e99_51 : exq sa F N S rt cd99 P Q 51 L st h = (ldR L 0 fun v => P 52 L (v :: st) h) := rfl
theorem e99_52 : exq sa F N S rt cd99 P Q 52 L st h = (tR st fun a s => opt (hO h a 6) fun fs => opt (fs[3]?) fun v => P 55 L (v :: s) h) := rfl
theorem e99_55 : exq sa F N S rt cd99 P Q 55 L st h = (ldR L 0 fun v => P 56 L (v :: st) h) := rfl
theorem e99_56 : exq sa F N S rt cd99 P Q 56 L st h = (tR st fun a s => opt (hO h a 6) fun fs => opt (fs[2]?) fun v => P 59 L (v :: s) h) := rfl
theorem e99_59 : exq sa F N S rt cd99 P Q 59 L st h = (ivV F 2 2 0 st h fun r s h' => P 62 L (pu r s) h') := rfl
theorem e99_62 : exq sa F N S rt cd99 P Q 62 L st h = (ldR L 0 fun v => P 63 L (v :: st) h) := rfl
theorem e99_63 : exq sa F N S rt cd99 P Q 63 L st h = (tR st fun a s => opt (hO h a 6) fun fs => opt (fs[2]?) fun v => P 66 L (v :: s) h) := rfl
theorem e99_66 : exq sa F N S rt cd99 P Q 66 L st h = (P 67 L (.int (Int32.ofInt (1)) :: st) h) := rfl
theorem e99_67 : exq sa F N S rt cd99 P Q 67 L st h = (ivV F 27 2 2 st h fun r s h' => P 70 L (pu r s) h') := rfl
theorem e99_70 : exq sa F N S rt cd99 P Q 70 L st h = (ldI L 2 fun v => lvS L 2 (.int (v + Int32.ofInt (1))) fun L' => P 73 L' st h) := rfl
theorem e99_73 : exq sa F N S rt cd99 P Q 73 L st h = (P 46 L st h) := rfl
theorem e99_76 : exq sa F N S rt cd99 P Q 76 L st h = (ldR L 0 fun v => P 77 L (v :: st) h) := rfl
theorem e99_77 : exq sa F N S rt cd99 P Q 77 L st h = (tR st fun a s => opt (hO h a 6) fun fs => opt (fs[2]?) fun v => P 80 L (v :: s) h) := rfl
theorem e99_80 : exq sa F N S rt cd99 P Q 80 L st h = (ivV F 21 1 2 st h fun r s h' => P 83 L (pu r s) h') := rfl
theorem e99_83 : exq sa F N S rt cd99 P Q 83 L st h = (tI st fun v s => s = [] ∧ (rt = some .int ∨ (rt = some .boolean ∧ (v = 0 ∨ v = 1))) ∧ Q (some (.int v)) h) := rfl
theorem e100_0 : exq sa F N S rt cd100 P Q 0 L st h = (ldR L 0 fun v => P 1 L (v :: st) h) := rfl
theorem e100_1 : exq sa F N S rt cd100 P Q 1 L st h = (tR st fun a s => opt (hO h a 6) fun fs => opt (fs[2]?) fun v => P 4 L (v :: s) h) := rfl
theorem e100_4 : exq sa F N S rt cd100 P Q 4 L st h = (ldI L 1 fun v => P 5 L (.int v :: st) h) := rfl
theorem e100_5 : exq sa F N S rt cd100 P Q 5 L st h = (ivV F 17 2 2 st h fun r s h' => P 8 L (pu r s) h') := rfl
theorem e100_8 : exq sa F N S rt cd100 P Q 8 L st h = (tI st fun a s => br (a = 0) (P 11 L s h) (P 14 L s h)) := rfl
theorem e100_11 : exq sa F N S rt cd100 P Q 11 L st h = (P 13 L (.int (Int32.ofInt (-1000001)) :: st) h) := rfl
theorem e100_13 : exq sa F N S rt cd100 P Q 13 L st h = (tI st fun v s => s = [] ∧ (rt = some .int ∨ (rt = some .boolean ∧ (v = 0 ∨ v = 1))) ∧ Q (some (.int v)) h) := rfl
theorem e100_14 : exq sa F N S rt cd100 P Q 14 L st h = (ldR L 0 fun v => P 15 L (v :: st) h) := rfl
theorem e100_15 : exq sa F N S rt cd100 P Q 15 L st h = (tR st fun a s => opt (hO h a 6) fun fs => opt (fs[2]?) fun v => P 18 L (v :: s) h) := rfl
theorem e100_18 : exq sa F N S rt cd100 P Q 18 L st h = (tR st fun a s => opt (hO h a 2) fun fs => opt (fs[7]?) fun v => P 21 L (v :: s) h) := rfl
theorem e100_21 : exq sa F N S rt cd100 P Q 21 L st h = (ldI L 1 fun v => P 22 L (.int v :: st) h) := rfl
theorem e100_22 : exq sa F N S rt cd100 P Q 22 L st h = (ald sa st h fun v s => P 23 L (.int v :: s) h) := rfl
theorem e100_23 : exq sa F N S rt cd100 P Q 23 L st h = (tI st fun a s => br (a = 0) (P 29 L s h) (P 26 L s h)) := rfl
theorem e100_26 : exq sa F N S rt cd100 P Q 26 L st h = (P 28 L (.int (Int32.ofInt (-1000002)) :: st) h) := rfl
theorem e100_28 : exq sa F N S rt cd100 P Q 28 L st h = (tI st fun v s => s = [] ∧ (rt = some .int ∨ (rt = some .boolean ∧ (v = 0 ∨ v = 1))) ∧ Q (some (.int v)) h) := rfl
theorem e100_29 : exq sa F N S rt cd100 P Q 29 L st h = (ldR L 0 fun v => P 30 L (v :: st) h) := rfl
theorem e100_30 : exq sa F N S rt cd100 P Q 30 L st h = (tR st fun a s => opt (hO h a 6) fun fs => opt (fs[3]?) fun v => P 33 L (v :: s) h) := rfl
theorem e100_33 : exq sa F N S rt cd100 P Q 33 L st h = (ldR L 0 fun v => P 34 L (v :: st) h) := rfl
theorem e100_34 : exq sa F N S rt cd100 P Q 34 L st h = (tR st fun a s => opt (hO h a 6) fun fs => opt (fs[2]?) fun v => P 37 L (v :: s) h) := rfl
theorem e100_37 : exq sa F N S rt cd100 P Q 37 L st h = (ivV F 2 2 0 st h fun r s h' => P 40 L (pu r s) h') := rfl
theorem e100_40 : exq sa F N S rt cd100 P Q 40 L st h = (ldR L 0 fun v => P 41 L (v :: st) h) := rfl
theorem e100_41 : exq sa F N S rt cd100 P Q 41 L st h = (tR st fun a s => opt (hO h a 6) fun fs => opt (fs[2]?) fun v => P 44 L (v :: s) h) := rfl
theorem e100_44 : exq sa F N S rt cd100 P Q 44 L st h = (ldI L 1 fun v => P 45 L (.int v :: st) h) := rfl
theorem e100_45 : exq sa F N S rt cd100 P Q 45 L st h = (ivV F 23 2 2 st h fun r s h' => P 48 L (pu r s) h') := rfl
theorem e100_48 : exq sa F N S rt cd100 P Q 48 L st h = (ldR L 0 fun v => P 49 L (v :: st) h) := rfl
theorem e100_49 : exq sa F N S rt cd100 P Q 49 L st h = (tR st fun a s => opt (hO h a 6) fun fs => opt (fs[2]?) fun v => P 52 L (v :: s) h) := rfl
theorem e100_52 : exq sa F N S rt cd100 P Q 52 L st h = (P 53 L (.int (Int32.ofInt (1)) :: st) h) := rfl
theorem e100_53 : exq sa F N S rt cd100 P Q 53 L st h = (ivV F 22 2 2 st h fun r s h' => P 56 L (pu r s) h') := rfl
theorem e100_56 : exq sa F N S rt cd100 P Q 56 L st h = (tI st fun v s => s = [] ∧ (rt = some .int ∨ (rt = some .boolean ∧ (v = 0 ∨ v = 1))) ∧ Q (some (.int v)) h) := rfl
theorem e101_0 : exq sa F N S rt cd101 P Q 0 L st h = (ldR L 0 fun v => P 1 L (v :: st) h) := rfl
theorem e101_1 : exq sa F N S rt cd101 P Q 1 L st h = (tR st fun a s => opt (hO h a 6) fun fs => opt (fs[2]?) fun v => P 4 L (v :: s) h) := rfl
theorem e101_4 : exq sa F N S rt cd101 P Q 4 L st h = (ldI L 1 fun v => P 5 L (.int v :: st) h) := rfl
theorem e101_5 : exq sa F N S rt cd101 P Q 5 L st h = (ivV F 17 2 2 st h fun r s h' => P 8 L (pu r s) h') := rfl
theorem e101_8 : exq sa F N S rt cd101 P Q 8 L st h = (tI st fun a s => br (a = 0) (P 11 L s h) (P 14 L s h)) := rfl
theorem e101_11 : exq sa F N S rt cd101 P Q 11 L st h = (P 13 L (.int (Int32.ofInt (-1000001)) :: st) h) := rfl
theorem e101_13 : exq sa F N S rt cd101 P Q 13 L st h = (tI st fun v s => s = [] ∧ (rt = some .int ∨ (rt = some .boolean ∧ (v = 0 ∨ v = 1))) ∧ Q (some (.int v)) h) := rfl
theorem e101_14 : exq sa F N S rt cd101 P Q 14 L st h = (ldR L 0 fun v => P 15 L (v :: st) h) := rfl
theorem e101_15 : exq sa F N S rt cd101 P Q 15 L st h = (tR st fun a s => opt (hO h a 6) fun fs => opt (fs[2]?) fun v => P 18 L (v :: s) h) := rfl
theorem e101_18 : exq sa F N S rt cd101 P Q 18 L st h = (tR st fun a s => opt (hO h a 2) fun fs => opt (fs[7]?) fun v => P 21 L (v :: s) h) := rfl
theorem e101_21 : exq sa F N S rt cd101 P Q 21 L st h = (ldI L 1 fun v => P 22 L (.int v :: st) h) := rfl
theorem e101_22 : exq sa F N S rt cd101 P Q 22 L st h = (ald sa st h fun v s => P 23 L (.int v :: s) h) := rfl
theorem e101_23 : exq sa F N S rt cd101 P Q 23 L st h = (P 24 L (.int (Int32.ofInt (1)) :: st) h) := rfl
theorem e101_24 : exq sa F N S rt cd101 P Q 24 L st h = (tI st fun b s => tI s fun a s => br (a = b) (P 30 L s h) (P 27 L s h)) := rfl
theorem e101_27 : exq sa F N S rt cd101 P Q 27 L st h = (P 29 L (.int (Int32.ofInt (-1000002)) :: st) h) := rfl
theorem e101_29 : exq sa F N S rt cd101 P Q 29 L st h = (tI st fun v s => s = [] ∧ (rt = some .int ∨ (rt = some .boolean ∧ (v = 0 ∨ v = 1))) ∧ Q (some (.int v)) h) := rfl
theorem e101_30 : exq sa F N S rt cd101 P Q 30 L st h = (ldR L 0 fun v => P 31 L (v :: st) h) := rfl
theorem e101_31 : exq sa F N S rt cd101 P Q 31 L st h = (tR st fun a s => opt (hO h a 6) fun fs => opt (fs[3]?) fun v => P 34 L (v :: s) h) := rfl
theorem e101_34 : exq sa F N S rt cd101 P Q 34 L st h = (ldR L 0 fun v => P 35 L (v :: st) h) := rfl
theorem e101_35 : exq sa F N S rt cd101 P Q 35 L st h = (tR st fun a s => opt (hO h a 6) fun fs => opt (fs[2]?) fun v => P 38 L (v :: s) h) := rfl
theorem e101_38 : exq sa F N S rt cd101 P Q 38 L st h = (ivV F 2 2 0 st h fun r s h' => P 41 L (pu r s) h') := rfl
theorem e101_41 : exq sa F N S rt cd101 P Q 41 L st h = (ldR L 0 fun v => P 42 L (v :: st) h) := rfl
theorem e101_42 : exq sa F N S rt cd101 P Q 42 L st h = (tR st fun a s => opt (hO h a 6) fun fs => opt (fs[2]?) fun v => P 45 L (v :: s) h) := rfl
theorem e101_45 : exq sa F N S rt cd101 P Q 45 L st h = (ldI L 1 fun v => P 46 L (.int v :: st) h) := rfl
theorem e101_46 : exq sa F N S rt cd101 P Q 46 L st h = (ivV F 24 2 2 st h fun r s h' => P 49 L (pu r s) h') := rfl
theorem e101_49 : exq sa F N S rt cd101 P Q 49 L st h = (ldR L 0 fun v => P 50 L (v :: st) h) := rfl
theorem e101_50 : exq sa F N S rt cd101 P Q 50 L st h = (tR st fun a s => opt (hO h a 6) fun fs => opt (fs[2]?) fun v => P 53 L (v :: s) h) := rfl
theorem e101_53 : exq sa F N S rt cd101 P Q 53 L st h = (P 54 L (.int (Int32.ofInt (1)) :: st) h) := rfl
theorem e101_54 : exq sa F N S rt cd101 P Q 54 L st h = (ivV F 22 2 2 st h fun r s h' => P 57 L (pu r s) h') := rfl
theorem e101_57 : exq sa F N S rt cd101 P Q 57 L st h = (tI st fun v s => s = [] ∧ (rt = some .int ∨ (rt = some .boolean ∧ (v = 0 ∨ v = 1))) ∧ Q (some (.int v)) h) := rfl
theorem e102_0 : exq sa F N S rt cd102 P Q 0 L st h = (ldR L 0 fun v => P 1 L (v :: st) h) := rfl
theorem e102_1 : exq sa F N S rt cd102 P Q 1 L st h = (tR st fun a s => opt (hO h a 6) fun fs => opt (fs[2]?) fun v => P 4 L (v :: s) h) := rfl
theorem e102_4 : exq sa F N S rt cd102 P Q 4 L st h = (ldI L 1 fun v => P 5 L (.int v :: st) h) := rfl
theorem e102_5 : exq sa F N S rt cd102 P Q 5 L st h = (ivV F 17 2 2 st h fun r s h' => P 8 L (pu r s) h') := rfl
theorem e102_8 : exq sa F N S rt cd102 P Q 8 L st h = (tI st fun a s => br (a = 0) (P 21 L s h) (P 11 L s h)) := rfl
theorem e102_11 : exq sa F N S rt cd102 P Q 11 L st h = (ldI L 2 fun v => P 12 L (.int v :: st) h) := rfl
theorem e102_12 : exq sa F N S rt cd102 P Q 12 L st h = (P 13 L (.int (Int32.ofInt (0)) :: st) h) := rfl
theorem e102_13 : exq sa F N S rt cd102 P Q 13 L st h = (P 15 L (.int (Int32.ofInt (9)) :: st) h) := rfl
theorem e102_15 : exq sa F N S rt cd102 P Q 15 L st h = (ivS F 131 3 st h fun r s h' => P 18 L (pu r s) h') := rfl
theorem e102_18 : exq sa F N S rt cd102 P Q 18 L st h = (tI st fun a s => br (a = 0) (P 21 L s h) (P 24 L s h)) := rfl
theorem e102_21 : exq sa F N S rt cd102 P Q 21 L st h = (P 23 L (.int (Int32.ofInt (-1000001)) :: st) h) := rfl
theorem e102_23 : exq sa F N S rt cd102 P Q 23 L st h = (tI st fun v s => s = [] ∧ (rt = some .int ∨ (rt = some .boolean ∧ (v = 0 ∨ v = 1))) ∧ Q (some (.int v)) h) := rfl
theorem e102_24 : exq sa F N S rt cd102 P Q 24 L st h = (ldR L 0 fun v => P 25 L (v :: st) h) := rfl
theorem e102_25 : exq sa F N S rt cd102 P Q 25 L st h = (tR st fun a s => opt (hO h a 6) fun fs => opt (fs[2]?) fun v => P 28 L (v :: s) h) := rfl
theorem e102_28 : exq sa F N S rt cd102 P Q 28 L st h = (tR st fun a s => opt (hO h a 2) fun fs => opt (fs[7]?) fun v => P 31 L (v :: s) h) := rfl
theorem e102_31 : exq sa F N S rt cd102 P Q 31 L st h = (ldI L 1 fun v => P 32 L (.int v :: st) h) := rfl
theorem e102_32 : exq sa F N S rt cd102 P Q 32 L st h = (ald sa st h fun v s => P 33 L (.int v :: s) h) := rfl
theorem e102_33 : exq sa F N S rt cd102 P Q 33 L st h = (P 34 L (.int (Int32.ofInt (2)) :: st) h) := rfl
theorem e102_34 : exq sa F N S rt cd102 P Q 34 L st h = (tI st fun b s => tI s fun a s => br (a = b) (P 37 L s h) (P 40 L s h)) := rfl
theorem e102_37 : exq sa F N S rt cd102 P Q 37 L st h = (P 39 L (.int (Int32.ofInt (-1000002)) :: st) h) := rfl
theorem e102_39 : exq sa F N S rt cd102 P Q 39 L st h = (tI st fun v s => s = [] ∧ (rt = some .int ∨ (rt = some .boolean ∧ (v = 0 ∨ v = 1))) ∧ Q (some (.int v)) h) := rfl
theorem e102_40 : exq sa F N S rt cd102 P Q 40 L st h = (ldR L 0 fun v => P 41 L (v :: st) h) := rfl
theorem e102_41 : exq sa F N S rt cd102 P Q 41 L st h = (tR st fun a s => opt (hO h a 6) fun fs => opt (fs[3]?) fun v => P 44 L (v :: s) h) := rfl
theorem e102_44 : exq sa F N S rt cd102 P Q 44 L st h = (ldR L 0 fun v => P 45 L (v :: st) h) := rfl
theorem e102_45 : exq sa F N S rt cd102 P Q 45 L st h = (tR st fun a s => opt (hO h a 6) fun fs => opt (fs[2]?) fun v => P 48 L (v :: s) h) := rfl
theorem e102_48 : exq sa F N S rt cd102 P Q 48 L st h = (ivV F 2 2 0 st h fun r s h' => P 51 L (pu r s) h') := rfl
theorem e102_51 : exq sa F N S rt cd102 P Q 51 L st h = (ldR L 0 fun v => P 52 L (v :: st) h) := rfl
theorem e102_52 : exq sa F N S rt cd102 P Q 52 L st h = (tR st fun a s => opt (hO h a 6) fun fs => opt (fs[2]?) fun v => P 55 L (v :: s) h) := rfl
theorem e102_55 : exq sa F N S rt cd102 P Q 55 L st h = (tR st fun a s => opt (hO h a 2) fun fs => opt (fs[5]?) fun v => P 58 L (v :: s) h) := rfl
theorem e102_58 : exq sa F N S rt cd102 P Q 58 L st h = (ldI L 1 fun v => P 59 L (.int v :: st) h) := rfl
theorem e102_59 : exq sa F N S rt cd102 P Q 59 L st h = (ald sa st h fun v s => P 60 L (.int v :: s) h) := rfl
theorem e102_60 : exq sa F N S rt cd102 P Q 60 L st h = (tI st fun v s => lvS L 3 (.int v) fun L' => P 61 L' s h) := rfl
theorem e102_61 : exq sa F N S rt cd102 P Q 61 L st h = (ldR L 0 fun v => P 62 L (v :: st) h) := rfl
theorem e102_62 : exq sa F N S rt cd102 P Q 62 L st h = (tR st fun a s => opt (hO h a 6) fun fs => opt (fs[2]?) fun v => P 65 L (v :: s) h) := rfl
theorem e102_65 : exq sa F N S rt cd102 P Q 65 L st h = (tR st fun a s => opt (hO h a 2) fun fs => opt (fs[5]?) fun v => P 68 L (v :: s) h) := rfl
theorem e102_68 : exq sa F N S rt cd102 P Q 68 L st h = (ldI L 1 fun v => P 69 L (.int v :: st) h) := rfl
theorem e102_69 : exq sa F N S rt cd102 P Q 69 L st h = (ldI L 2 fun v => P 70 L (.int v :: st) h) := rfl
theorem e102_70 : exq sa F N S rt cd102 P Q 70 L st h = (tI st fun v s => tI s fun i s => tR s fun a s => opt (hI h a) fun q => ix i q.1 fun k => P 71 L s (hS h a (.inl (0, q.1, .inl (upd q.2 k v))))) := rfl
theorem e102_71 : exq sa F N S rt cd102 P Q 71 L st h = (ldI L 3 fun v => P 72 L (.int v :: st) h) := rfl
theorem e102_72 : exq sa F N S rt cd102 P Q 72 L st h = (tI st fun v s => s = [] ∧ (rt = some .int ∨ (rt = some .boolean ∧ (v = 0 ∨ v = 1))) ∧ Q (some (.int v)) h) := rfl
theorem e103_0 : exq sa F N S rt cd103 P Q 0 L st h = (ldR L 0 fun v => P 1 L (v :: st) h) := rfl
theorem e103_1 : exq sa F N S rt cd103 P Q 1 L st h = (tR st fun a s => opt (hO h a 6) fun fs => opt (fs[2]?) fun v => P 4 L (v :: s) h) := rfl
theorem e103_4 : exq sa F N S rt cd103 P Q 4 L st h = (ldI L 1 fun v => P 5 L (.int v :: st) h) := rfl
theorem e103_5 : exq sa F N S rt cd103 P Q 5 L st h = (ivV F 18 2 2 st h fun r s h' => P 8 L (pu r s) h') := rfl
theorem e103_8 : exq sa F N S rt cd103 P Q 8 L st h = (tI st fun a s => br (a = 0) (P 22 L s h) (P 11 L s h)) := rfl
theorem e103_11 : exq sa F N S rt cd103 P Q 11 L st h = (ldR L 0 fun v => P 12 L (v :: st) h) := rfl
theorem e103_12 : exq sa F N S rt cd103 P Q 12 L st h = (tR st fun a s => opt (hO h a 6) fun fs => opt (fs[2]?) fun v => P 15 L (v :: s) h) := rfl
theorem e103_15 : exq sa F N S rt cd103 P Q 15 L st h = (ldI L 2 fun v => P 16 L (.int v :: st) h) := rfl
theorem e103_16 : exq sa F N S rt cd103 P Q 16 L st h = (ivV F 19 2 2 st h fun r s h' => P 19 L (pu r s) h') := rfl
theorem e103_19 : exq sa F N S rt cd103 P Q 19 L st h = (tI st fun a s => br (a = 0) (P 22 L s h) (P 25 L s h)) := rfl
theorem e103_22 : exq sa F N S rt cd103 P Q 22 L st h = (P 24 L (.int (Int32.ofInt (-1000001)) :: st) h) := rfl
theorem e103_24 : exq sa F N S rt cd103 P Q 24 L st h = (tI st fun v s => s = [] ∧ (rt = some .int ∨ (rt = some .boolean ∧ (v = 0 ∨ v = 1))) ∧ Q (some (.int v)) h) := rfl
theorem e103_25 : exq sa F N S rt cd103 P Q 25 L st h = (ldR L 0 fun v => P 26 L (v :: st) h) := rfl
theorem e103_26 : exq sa F N S rt cd103 P Q 26 L st h = (tR st fun a s => opt (hO h a 6) fun fs => opt (fs[2]?) fun v => P 29 L (v :: s) h) := rfl
theorem e103_29 : exq sa F N S rt cd103 P Q 29 L st h = (tR st fun a s => opt (hO h a 2) fun fs => opt (fs[10]?) fun v => P 32 L (v :: s) h) := rfl
theorem e103_32 : exq sa F N S rt cd103 P Q 32 L st h = (ldI L 1 fun v => P 33 L (.int v :: st) h) := rfl
theorem e103_33 : exq sa F N S rt cd103 P Q 33 L st h = (ald sa st h fun v s => P 34 L (.int v :: s) h) := rfl
theorem e103_34 : exq sa F N S rt cd103 P Q 34 L st h = (tI st fun v s => lvS L 3 (.int v) fun L' => P 35 L' s h) := rfl
theorem e103_35 : exq sa F N S rt cd103 P Q 35 L st h = (ldI L 3 fun v => P 36 L (.int v :: st) h) := rfl
theorem e103_36 : exq sa F N S rt cd103 P Q 36 L st h = (ldI L 2 fun v => P 37 L (.int v :: st) h) := rfl
theorem e103_37 : exq sa F N S rt cd103 P Q 37 L st h = (tI st fun b s => tI s fun a s => br (a = b) (P 51 L s h) (P 40 L s h)) := rfl
theorem e103_40 : exq sa F N S rt cd103 P Q 40 L st h = (ldR L 0 fun v => P 41 L (v :: st) h) := rfl
theorem e103_41 : exq sa F N S rt cd103 P Q 41 L st h = (tR st fun a s => opt (hO h a 6) fun fs => opt (fs[2]?) fun v => P 44 L (v :: s) h) := rfl
theorem e103_44 : exq sa F N S rt cd103 P Q 44 L st h = (ldI L 1 fun v => P 45 L (.int v :: st) h) := rfl
theorem e103_45 : exq sa F N S rt cd103 P Q 45 L st h = (ivV F 20 2 2 st h fun r s h' => P 48 L (pu r s) h') := rfl
theorem e103_48 : exq sa F N S rt cd103 P Q 48 L st h = (tI st fun a s => br (a = 0) (P 54 L s h) (P 51 L s h)) := rfl
theorem e103_51 : exq sa F N S rt cd103 P Q 51 L st h = (P 53 L (.int (Int32.ofInt (-1000002)) :: st) h) := rfl
theorem e103_53 : exq sa F N S rt cd103 P Q 53 L st h = (tI st fun v s => s = [] ∧ (rt = some .int ∨ (rt = some .boolean ∧ (v = 0 ∨ v = 1))) ∧ Q (some (.int v)) h) := rfl
theorem e103_54 : exq sa F N S rt cd103 P Q 54 L st h = (ldR L 0 fun v => P 55 L (v :: st) h) := rfl
theorem e103_55 : exq sa F N S rt cd103 P Q 55 L st h = (tR st fun a s => opt (hO h a 6) fun fs => opt (fs[3]?) fun v => P 58 L (v :: s) h) := rfl
theorem e103_58 : exq sa F N S rt cd103 P Q 58 L st h = (ldR L 0 fun v => P 59 L (v :: st) h) := rfl
theorem e103_59 : exq sa F N S rt cd103 P Q 59 L st h = (tR st fun a s => opt (hO h a 6) fun fs => opt (fs[2]?) fun v => P 62 L (v :: s) h) := rfl
theorem e103_62 : exq sa F N S rt cd103 P Q 62 L st h = (ivV F 2 2 0 st h fun r s h' => P 65 L (pu r s) h') := rfl
theorem e103_65 : exq sa F N S rt cd103 P Q 65 L st h = (ldR L 0 fun v => P 66 L (v :: st) h) := rfl
theorem e103_66 : exq sa F N S rt cd103 P Q 66 L st h = (tR st fun a s => opt (hO h a 6) fun fs => opt (fs[2]?) fun v => P 69 L (v :: s) h) := rfl
theorem e103_69 : exq sa F N S rt cd103 P Q 69 L st h = (tR st fun a s => opt (hO h a 2) fun fs => opt (fs[10]?) fun v => P 72 L (v :: s) h) := rfl
theorem e103_72 : exq sa F N S rt cd103 P Q 72 L st h = (ldI L 1 fun v => P 73 L (.int v :: st) h) := rfl
theorem e103_73 : exq sa F N S rt cd103 P Q 73 L st h = (ldI L 2 fun v => P 74 L (.int v :: st) h) := rfl
theorem e103_74 : exq sa F N S rt cd103 P Q 74 L st h = (tI st fun v s => tI s fun i s => tR s fun a s => opt (hI h a) fun q => ix i q.1 fun k => P 75 L s (hS h a (.inl (0, q.1, .inl (upd q.2 k v))))) := rfl
theorem e103_75 : exq sa F N S rt cd103 P Q 75 L st h = (ldI L 3 fun v => P 76 L (.int v :: st) h) := rfl
theorem e103_76 : exq sa F N S rt cd103 P Q 76 L st h = (tI st fun v s => s = [] ∧ (rt = some .int ∨ (rt = some .boolean ∧ (v = 0 ∨ v = 1))) ∧ Q (some (.int v)) h) := rfl
theorem e104_0 : exq sa F N S rt cd104 P Q 0 L st h = (ldR L 0 fun v => P 1 L (v :: st) h) := rfl
theorem e104_1 : exq sa F N S rt cd104 P Q 1 L st h = (tR st fun a s => opt (hO h a 6) fun fs => opt (fs[2]?) fun v => P 4 L (v :: s) h) := rfl
theorem e104_4 : exq sa F N S rt cd104 P Q 4 L st h = (ldI L 1 fun v => P 5 L (.int v :: st) h) := rfl
theorem e104_5 : exq sa F N S rt cd104 P Q 5 L st h = (ivV F 17 2 2 st h fun r s h' => P 8 L (pu r s) h') := rfl
theorem e104_8 : exq sa F N S rt cd104 P Q 8 L st h = (tI st fun a s => br (a = 0) (P 11 L s h) (P 14 L s h)) := rfl
theorem e104_11 : exq sa F N S rt cd104 P Q 11 L st h = (P 13 L (.int (Int32.ofInt (-1000001)) :: st) h) := rfl
theorem e104_13 : exq sa F N S rt cd104 P Q 13 L st h = (tI st fun v s => s = [] ∧ (rt = some .int ∨ (rt = some .boolean ∧ (v = 0 ∨ v = 1))) ∧ Q (some (.int v)) h) := rfl
theorem e104_14 : exq sa F N S rt cd104 P Q 14 L st h = (ldI L 2 fun v => P 15 L (.int v :: st) h) := rfl
theorem e104_15 : exq sa F N S rt cd104 P Q 15 L st h = (ex1 sa F N S rt P Q 15 L st h (.tableswitch 125 0 5 #[37, 47, 57, 67, 77, 86]) 0 0 0 0) := rfl
theorem e104_52 : exq sa F N S rt cd104 P Q 52 L st h = (ldR L 0 fun v => P 53 L (v :: st) h) := rfl
theorem e104_53 : exq sa F N S rt cd104 P Q 53 L st h = (tR st fun a s => opt (hO h a 6) fun fs => opt (fs[2]?) fun v => P 56 L (v :: s) h) := rfl
theorem e104_56 : exq sa F N S rt cd104 P Q 56 L st h = (tR st fun a s => opt (hO h a 2) fun fs => opt (fs[5]?) fun v => P 59 L (v :: s) h) := rfl
theorem e104_59 : exq sa F N S rt cd104 P Q 59 L st h = (ldI L 1 fun v => P 60 L (.int v :: st) h) := rfl
theorem e104_60 : exq sa F N S rt cd104 P Q 60 L st h = (ald sa st h fun v s => P 61 L (.int v :: s) h) := rfl
theorem e104_61 : exq sa F N S rt cd104 P Q 61 L st h = (tI st fun v s => s = [] ∧ (rt = some .int ∨ (rt = some .boolean ∧ (v = 0 ∨ v = 1))) ∧ Q (some (.int v)) h) := rfl
theorem e104_62 : exq sa F N S rt cd104 P Q 62 L st h = (ldR L 0 fun v => P 63 L (v :: st) h) := rfl
theorem e104_63 : exq sa F N S rt cd104 P Q 63 L st h = (tR st fun a s => opt (hO h a 6) fun fs => opt (fs[2]?) fun v => P 66 L (v :: s) h) := rfl
theorem e104_66 : exq sa F N S rt cd104 P Q 66 L st h = (tR st fun a s => opt (hO h a 2) fun fs => opt (fs[6]?) fun v => P 69 L (v :: s) h) := rfl
theorem e104_69 : exq sa F N S rt cd104 P Q 69 L st h = (ldI L 1 fun v => P 70 L (.int v :: st) h) := rfl
theorem e104_70 : exq sa F N S rt cd104 P Q 70 L st h = (ald sa st h fun v s => P 71 L (.int v :: s) h) := rfl
theorem e104_71 : exq sa F N S rt cd104 P Q 71 L st h = (tI st fun v s => s = [] ∧ (rt = some .int ∨ (rt = some .boolean ∧ (v = 0 ∨ v = 1))) ∧ Q (some (.int v)) h) := rfl
theorem e104_72 : exq sa F N S rt cd104 P Q 72 L st h = (ldR L 0 fun v => P 73 L (v :: st) h) := rfl
theorem e104_73 : exq sa F N S rt cd104 P Q 73 L st h = (tR st fun a s => opt (hO h a 6) fun fs => opt (fs[2]?) fun v => P 76 L (v :: s) h) := rfl
theorem e104_76 : exq sa F N S rt cd104 P Q 76 L st h = (tR st fun a s => opt (hO h a 2) fun fs => opt (fs[7]?) fun v => P 79 L (v :: s) h) := rfl
theorem e104_79 : exq sa F N S rt cd104 P Q 79 L st h = (ldI L 1 fun v => P 80 L (.int v :: st) h) := rfl
theorem e104_80 : exq sa F N S rt cd104 P Q 80 L st h = (ald sa st h fun v s => P 81 L (.int v :: s) h) := rfl
theorem e104_81 : exq sa F N S rt cd104 P Q 81 L st h = (tI st fun v s => s = [] ∧ (rt = some .int ∨ (rt = some .boolean ∧ (v = 0 ∨ v = 1))) ∧ Q (some (.int v)) h) := rfl
theorem e104_82 : exq sa F N S rt cd104 P Q 82 L st h = (ldR L 0 fun v => P 83 L (v :: st) h) := rfl
theorem e104_83 : exq sa F N S rt cd104 P Q 83 L st h = (tR st fun a s => opt (hO h a 6) fun fs => opt (fs[2]?) fun v => P 86 L (v :: s) h) := rfl
theorem e104_86 : exq sa F N S rt cd104 P Q 86 L st h = (tR st fun a s => opt (hO h a 2) fun fs => opt (fs[8]?) fun v => P 89 L (v :: s) h) := rfl
theorem e104_89 : exq sa F N S rt cd104 P Q 89 L st h = (ldI L 1 fun v => P 90 L (.int v :: st) h) := rfl
theorem e104_90 : exq sa F N S rt cd104 P Q 90 L st h = (ald sa st h fun v s => P 91 L (.int v :: s) h) := rfl
theorem e104_91 : exq sa F N S rt cd104 P Q 91 L st h = (tI st fun v s => s = [] ∧ (rt = some .int ∨ (rt = some .boolean ∧ (v = 0 ∨ v = 1))) ∧ Q (some (.int v)) h) := rfl
theorem e104_92 : exq sa F N S rt cd104 P Q 92 L st h = (ldR L 0 fun v => P 93 L (v :: st) h) := rfl
theorem e104_93 : exq sa F N S rt cd104 P Q 93 L st h = (tR st fun a s => opt (hO h a 6) fun fs => opt (fs[2]?) fun v => P 96 L (v :: s) h) := rfl
theorem e104_96 : exq sa F N S rt cd104 P Q 96 L st h = (ldI L 1 fun v => P 97 L (.int v :: st) h) := rfl
theorem e104_97 : exq sa F N S rt cd104 P Q 97 L st h = (ivV F 33 2 2 st h fun r s h' => P 100 L (pu r s) h') := rfl
theorem e104_100 : exq sa F N S rt cd104 P Q 100 L st h = (tI st fun v s => s = [] ∧ (rt = some .int ∨ (rt = some .boolean ∧ (v = 0 ∨ v = 1))) ∧ Q (some (.int v)) h) := rfl
theorem e104_101 : exq sa F N S rt cd104 P Q 101 L st h = (ldR L 0 fun v => P 102 L (v :: st) h) := rfl
theorem e104_102 : exq sa F N S rt cd104 P Q 102 L st h = (tR st fun a s => opt (hO h a 6) fun fs => opt (fs[2]?) fun v => P 105 L (v :: s) h) := rfl
theorem e104_105 : exq sa F N S rt cd104 P Q 105 L st h = (tR st fun a s => opt (hO h a 2) fun fs => opt (fs[7]?) fun v => P 108 L (v :: s) h) := rfl
theorem e104_108 : exq sa F N S rt cd104 P Q 108 L st h = (ldI L 1 fun v => P 109 L (.int v :: st) h) := rfl
theorem e104_109 : exq sa F N S rt cd104 P Q 109 L st h = (ald sa st h fun v s => P 110 L (.int v :: s) h) := rfl
theorem e104_110 : exq sa F N S rt cd104 P Q 110 L st h = (P 111 L (.int (Int32.ofInt (1)) :: st) h) := rfl
theorem e104_111 : exq sa F N S rt cd104 P Q 111 L st h = (tI st fun b s => tI s fun a s => br (a = b) (P 114 L s h) (P 137 L s h)) := rfl
theorem e104_114 : exq sa F N S rt cd104 P Q 114 L st h = (ldR L 0 fun v => P 115 L (v :: st) h) := rfl
theorem e104_115 : exq sa F N S rt cd104 P Q 115 L st h = (tR st fun a s => opt (hO h a 6) fun fs => opt (fs[2]?) fun v => P 118 L (v :: s) h) := rfl
theorem e104_118 : exq sa F N S rt cd104 P Q 118 L st h = (tR st fun a s => opt (hO h a 2) fun fs => opt (fs[5]?) fun v => P 121 L (v :: s) h) := rfl
theorem e104_121 : exq sa F N S rt cd104 P Q 121 L st h = (ldI L 1 fun v => P 122 L (.int v :: st) h) := rfl
theorem e104_122 : exq sa F N S rt cd104 P Q 122 L st h = (ald sa st h fun v s => P 123 L (.int v :: s) h) := rfl
theorem e104_123 : exq sa F N S rt cd104 P Q 123 L st h = (tI st fun a s => br (a ≤ 0) (P 137 L s h) (P 126 L s h)) := rfl
theorem e104_126 : exq sa F N S rt cd104 P Q 126 L st h = (ldR L 0 fun v => P 127 L (v :: st) h) := rfl
theorem e104_127 : exq sa F N S rt cd104 P Q 127 L st h = (tR st fun a s => opt (hO h a 6) fun fs => opt (fs[2]?) fun v => P 130 L (v :: s) h) := rfl
theorem e104_130 : exq sa F N S rt cd104 P Q 130 L st h = (ldI L 1 fun v => P 131 L (.int v :: st) h) := rfl
theorem e104_131 : exq sa F N S rt cd104 P Q 131 L st h = (ivV F 37 2 2 st h fun r s h' => P 134 L (pu r s) h') := rfl
theorem e104_134 : exq sa F N S rt cd104 P Q 134 L st h = (P 139 L st h) := rfl
theorem e104_137 : exq sa F N S rt cd104 P Q 137 L st h = (P 139 L (.int (Int32.ofInt (-1000000)) :: st) h) := rfl
theorem e104_139 : exq sa F N S rt cd104 P Q 139 L st h = (tI st fun v s => s = [] ∧ (rt = some .int ∨ (rt = some .boolean ∧ (v = 0 ∨ v = 1))) ∧ Q (some (.int v)) h) := rfl
theorem e104_140 : exq sa F N S rt cd104 P Q 140 L st h = (P 142 L (.int (Int32.ofInt (-1000001)) :: st) h) := rfl
theorem e104_142 : exq sa F N S rt cd104 P Q 142 L st h = (tI st fun v s => s = [] ∧ (rt = some .int ∨ (rt = some .boolean ∧ (v = 0 ∨ v = 1))) ∧ Q (some (.int v)) h) := rfl
theorem e105_0 : exq sa F N S rt cd105 P Q 0 L st h = (ldR L 0 fun v => P 1 L (v :: st) h) := rfl
theorem e105_1 : exq sa F N S rt cd105 P Q 1 L st h = (tR st fun a s => opt (hO h a 6) fun fs => opt (fs[2]?) fun v => P 4 L (v :: s) h) := rfl
theorem e105_4 : exq sa F N S rt cd105 P Q 4 L st h = (ldI L 1 fun v => P 5 L (.int v :: st) h) := rfl
theorem e105_5 : exq sa F N S rt cd105 P Q 5 L st h = (ivV F 18 2 2 st h fun r s h' => P 8 L (pu r s) h') := rfl
theorem e105_8 : exq sa F N S rt cd105 P Q 8 L st h = (tI st fun a s => br (a = 0) (P 11 L s h) (P 14 L s h)) := rfl
theorem e105_11 : exq sa F N S rt cd105 P Q 11 L st h = (P 13 L (.int (Int32.ofInt (-1000001)) :: st) h) := rfl
theorem e105_13 : exq sa F N S rt cd105 P Q 13 L st h = (tI st fun v s => s = [] ∧ (rt = some .int ∨ (rt = some .boolean ∧ (v = 0 ∨ v = 1))) ∧ Q (some (.int v)) h) := rfl
theorem e105_14 : exq sa F N S rt cd105 P Q 14 L st h = (ldI L 2 fun v => P 15 L (.int v :: st) h) := rfl
theorem e105_15 : exq sa F N S rt cd105 P Q 15 L st h = (ex1 sa F N S rt P Q 15 L st h (.tableswitch 76 0 3 #[29, 39, 49, 59]) 0 0 0 0) := rfl
theorem e105_44 : exq sa F N S rt cd105 P Q 44 L st h = (ldR L 0 fun v => P 45 L (v :: st) h) := rfl
theorem e105_45 : exq sa F N S rt cd105 P Q 45 L st h = (tR st fun a s => opt (hO h a 6) fun fs => opt (fs[2]?) fun v => P 48 L (v :: s) h) := rfl
theorem e105_48 : exq sa F N S rt cd105 P Q 48 L st h = (tR st fun a s => opt (hO h a 2) fun fs => opt (fs[10]?) fun v => P 51 L (v :: s) h) := rfl
theorem e105_51 : exq sa F N S rt cd105 P Q 51 L st h = (ldI L 1 fun v => P 52 L (.int v :: st) h) := rfl
theorem e105_52 : exq sa F N S rt cd105 P Q 52 L st h = (ald sa st h fun v s => P 53 L (.int v :: s) h) := rfl
theorem e105_53 : exq sa F N S rt cd105 P Q 53 L st h = (tI st fun v s => s = [] ∧ (rt = some .int ∨ (rt = some .boolean ∧ (v = 0 ∨ v = 1))) ∧ Q (some (.int v)) h) := rfl
theorem e105_54 : exq sa F N S rt cd105 P Q 54 L st h = (ldR L 0 fun v => P 55 L (v :: st) h) := rfl
theorem e105_55 : exq sa F N S rt cd105 P Q 55 L st h = (tR st fun a s => opt (hO h a 6) fun fs => opt (fs[2]?) fun v => P 58 L (v :: s) h) := rfl
theorem e105_58 : exq sa F N S rt cd105 P Q 58 L st h = (tR st fun a s => opt (hO h a 2) fun fs => opt (fs[11]?) fun v => P 61 L (v :: s) h) := rfl
theorem e105_61 : exq sa F N S rt cd105 P Q 61 L st h = (ldI L 1 fun v => P 62 L (.int v :: st) h) := rfl
theorem e105_62 : exq sa F N S rt cd105 P Q 62 L st h = (ald sa st h fun v s => P 63 L (.int v :: s) h) := rfl
theorem e105_63 : exq sa F N S rt cd105 P Q 63 L st h = (tI st fun v s => s = [] ∧ (rt = some .int ∨ (rt = some .boolean ∧ (v = 0 ∨ v = 1))) ∧ Q (some (.int v)) h) := rfl
theorem e105_64 : exq sa F N S rt cd105 P Q 64 L st h = (ldR L 0 fun v => P 65 L (v :: st) h) := rfl
theorem e105_65 : exq sa F N S rt cd105 P Q 65 L st h = (tR st fun a s => opt (hO h a 6) fun fs => opt (fs[2]?) fun v => P 68 L (v :: s) h) := rfl
theorem e105_68 : exq sa F N S rt cd105 P Q 68 L st h = (tR st fun a s => opt (hO h a 2) fun fs => opt (fs[12]?) fun v => P 71 L (v :: s) h) := rfl
theorem e105_71 : exq sa F N S rt cd105 P Q 71 L st h = (ldI L 1 fun v => P 72 L (.int v :: st) h) := rfl
theorem e105_72 : exq sa F N S rt cd105 P Q 72 L st h = (ald sa st h fun v s => P 73 L (.int v :: s) h) := rfl
theorem e105_73 : exq sa F N S rt cd105 P Q 73 L st h = (tI st fun v s => s = [] ∧ (rt = some .int ∨ (rt = some .boolean ∧ (v = 0 ∨ v = 1))) ∧ Q (some (.int v)) h) := rfl
theorem e105_74 : exq sa F N S rt cd105 P Q 74 L st h = (ldR L 0 fun v => P 75 L (v :: st) h) := rfl
theorem e105_75 : exq sa F N S rt cd105 P Q 75 L st h = (tR st fun a s => opt (hO h a 6) fun fs => opt (fs[2]?) fun v => P 78 L (v :: s) h) := rfl
theorem e105_78 : exq sa F N S rt cd105 P Q 78 L st h = (ldI L 1 fun v => P 79 L (.int v :: st) h) := rfl
theorem e105_79 : exq sa F N S rt cd105 P Q 79 L st h = (ivV F 20 2 2 st h fun r s h' => P 82 L (pu r s) h') := rfl
theorem e105_82 : exq sa F N S rt cd105 P Q 82 L st h = (tI st fun a s => br (a = 0) (P 89 L s h) (P 85 L s h)) := rfl
theorem e105_85 : exq sa F N S rt cd105 P Q 85 L st h = (P 86 L (.int (Int32.ofInt (1)) :: st) h) := rfl
theorem e105_86 : exq sa F N S rt cd105 P Q 86 L st h = (P 90 L st h) := rfl
theorem e105_89 : exq sa F N S rt cd105 P Q 89 L st h = (P 90 L (.int (Int32.ofInt (0)) :: st) h) := rfl
theorem e105_90 : exq sa F N S rt cd105 P Q 90 L st h = (tI st fun v s => s = [] ∧ (rt = some .int ∨ (rt = some .boolean ∧ (v = 0 ∨ v = 1))) ∧ Q (some (.int v)) h) := rfl
theorem e105_91 : exq sa F N S rt cd105 P Q 91 L st h = (P 93 L (.int (Int32.ofInt (-1000001)) :: st) h) := rfl
theorem e105_93 : exq sa F N S rt cd105 P Q 93 L st h = (tI st fun v s => s = [] ∧ (rt = some .int ∨ (rt = some .boolean ∧ (v = 0 ∨ v = 1))) ∧ Q (some (.int v)) h) := rfl
end EL
