/-! what each instruction does, held back -/
section GL
variable {sa : aS} {F : aF} {N S : Nat} {rt : Option FieldType} {P : aK} {Q : aQ} {L : aL} {st : List Value} {h : aH}
theorem g224_55 : exq sa F N S rt cd224 P Q 55 L st h = (tI st fun b s => tI s fun a s => brW (b ≤ a) (P 81 L s h) (P 58 L s h) wt wt) := e224_55
theorem g224_60 : exq sa F N S rt cd224 P Q 60 L st h = (tR st fun a s => optW (hO h a 7) (fun fs => optW (fs[0]?) (fun v => P 63 L (v :: s) h) wt) wt) := e224_60
theorem g224_64 : exq sa F N S rt cd224 P Q 64 L st h = (aldW sa st h (fun v s => P 65 L (.int v :: s) h) wt) := e224_64
theorem g224_65 : exq sa F N S rt cd224 P Q 65 L st h = (tI st fun a s => brW (a < 0) (P 72 L s h) (P 68 L s h) wt wt) := e224_65
theorem g224_84 : exq sa F N S rt cd224 P Q 84 L st h = (tR st fun a s => optW (hO h a 7) (fun fs => optW (fs[16]?) (fun v => P 87 L (v :: s) h) wt) wt) := e224_84
theorem g224_88 : exq sa F N S rt cd224 P Q 88 L st h = (aldW sa st h (fun v s => P 89 L (.int v :: s) h) wt) := e224_88
theorem g224_91 : exq sa F N S rt cd224 P Q 91 L st h = (tR st fun a s => optW (hO h a 7) (fun fs => optW (fs[16]?) (fun v => P 94 L (v :: s) h) wt) wt) := e224_91
theorem g224_95 : exq sa F N S rt cd224 P Q 95 L st h = (aldW sa st h (fun v s => P 96 L (.int v :: s) h) wt) := e224_95
theorem g224_98 : exq sa F N S rt cd224 P Q 98 L st h = (tR st fun a s => optW (hO h a 7) (fun fs => optW (fs[17]?) (fun v => P 101 L (v :: s) h) wt) wt) := e224_98
theorem g224_102 : exq sa F N S rt cd224 P Q 102 L st h = (aldW sa st h (fun v s => P 103 L (.int v :: s) h) wt) := e224_102
theorem g224_105 : exq sa F N S rt cd224 P Q 105 L st h = (tR st fun a s => optW (hO h a 7) (fun fs => optW (fs[17]?) (fun v => P 108 L (v :: s) h) wt) wt) := e224_105
theorem g224_109 : exq sa F N S rt cd224 P Q 109 L st h = (aldW sa st h (fun v s => P 110 L (.int v :: s) h) wt) := e224_109
theorem g224_110 : exq sa F N S rt cd224 P Q 110 L st h = (ivSW F 137 1 st h (fun r s h' => P 113 L (pu r s) h') wt) := e224_110
theorem g224_116 : exq sa F N S rt cd224 P Q 116 L st h = (tR st fun a s => optW (hO h a 7) (fun fs => optW (fs[17]?) (fun v => P 119 L (v :: s) h) wt) wt) := e224_116
theorem g224_120 : exq sa F N S rt cd224 P Q 120 L st h = (ivVW F 175 3 7 st h (fun r s h' => P 123 L (pu r s) h') wt) := e224_120
theorem g224_123 : exq sa F N S rt cd224 P Q 123 L st h = (ivSW F 137 1 st h (fun r s h' => P 126 L (pu r s) h') wt) := e224_123
theorem g224_128 : exq sa F N S rt cd224 P Q 128 L st h = (tR st fun a s => optW (hO h a 7) (fun fs => optW (fs[20]?) (fun v => P 131 L (v :: s) h) wt) wt) := e224_128
theorem g224_133 : exq sa F N S rt cd224 P Q 133 L st h = (tR st fun a s => optW (hO h a 7) (fun fs => optW (fs[4]?) (fun v => P 136 L (v :: s) h) wt) wt) := e224_133
end GL
