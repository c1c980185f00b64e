theorem uX0 : ∀ x ∈ u_ws RX0 TX0 3, x ∈ rl_BW := by decide +kernel
theorem uX1 : ∀ x ∈ u_ws RX1 TX1 9, x ∈ rl_BW := by decide +kernel
theorem uX2 : ∀ x ∈ u_ws RX2 TX2 5, x ∈ rl_BW := by decide +kernel
theorem uX3 : ∀ x ∈ u_ws RX3 TX3 5, x ∈ rl_BW := by decide +kernel
theorem uX4 : ∀ x ∈ u_ws RX4 TX4 3, x ∈ rl_BW := by decide +kernel
theorem uX5 : ∀ x ∈ u_ws RX5 TX5 2, x ∈ rl_BW := by decide +kernel
theorem uX6 : ∀ x ∈ u_ws RX6 TX6 3, x ∈ rl_BW := by decide +kernel
theorem uX7 : ∀ x ∈ u_ws RX7 TX7 9, x ∈ rl_BW := by decide +kernel
theorem uX8 : ∀ x ∈ u_ws RX8 TX8 31, x ∈ rl_BW := by decide +kernel
theorem zL : Cond.initialized RL ∈ rl_BW := (rl_b1 0 rfl rfl)
theorem zX7 : Cond.initialized RX7 ∈ rl_BW := (rl_b1 1 rfl rfl)
theorem zX3 : Cond.initialized RX3 ∈ rl_BW := (rl_b1 2 rfl rfl)
theorem zX2 : Cond.initialized RX2 ∈ rl_BW := (rl_b1 3 rfl rfl)
theorem zX0 : Cond.initialized RX0 ∈ rl_BW := (rl_b1 4 rfl rfl)
theorem zX6 : Cond.initialized RX6 ∈ rl_BW := (rl_b1 5 rfl rfl)
theorem zX4 : Cond.initialized RX4 ∈ rl_BW := (rl_b1 6 rfl rfl)
theorem zX5 : Cond.initialized RX5 ∈ rl_BW := (rl_b1 7 rfl rfl)
theorem zX8 : Cond.initialized RX8 ∈ rl_BW := (rl_b1 8 rfl rfl)
theorem zX1 : Cond.initialized RX1 ∈ rl_BW := (rl_b1 9 rfl rfl)
theorem zJ9 : Cond.initialized RJ9 ∈ rl_BW := (rl_b1 10 rfl rfl)
theorem zJ10 : Cond.initialized RJ10 ∈ rl_BW := (rl_b1 11 rfl rfl)
theorem zJ13 : Cond.initialized RJ13 ∈ rl_BW := (rl_b1 17 rfl rfl)
theorem kL_8 : Cond.classLink RL 8 "RowLineage" ∈ rl_BW := (rl_b1 18 rfl rfl)
theorem iX7 : Cond.instantiable RX7 9 ∈ rl_BW := (rl_b1 19 rfl rfl)
theorem mL_21 {X : rl_X} {E : rl_E} {cc : ByteArray} (hC : rl_C X E cc RL rl_BW rl_Ns) : rl_M X RL 21 yX7_init := rl_Mo hC (rl_b1 20 rfl rfl)
theorem mX7_1 : Cond.methodLink RX7 1 objectInit ∈ rl_BW := (rl_b1 23 rfl rfl)
theorem kX7_7 : Cond.classLink RX7 7 "RowLineage$Sources" ∈ rl_BW := (rl_b1 26 rfl rfl)
theorem iX3 : Cond.instantiable RX3 5 ∈ rl_BW := (rl_b1 27 rfl rfl)
theorem mX7_9 {X : rl_X} {E : rl_E} {cc : ByteArray} (hC : rl_C X E cc RX7 rl_BW rl_Ns) : rl_M X RX7 9 yX3_init := rl_Mn hC (host := "RowLineage") (rl_n1 28 rfl rfl)
theorem mX3_3 : Cond.methodLink RX3 3 objectInit ∈ rl_BW := (rl_b1 31 rfl rfl)
theorem kX3_18 : Cond.classLink RX3 18 "[[I" ∈ rl_BW := (rl_b1 32 rfl rfl)
theorem fX3_9 {X : rl_X} {E : rl_E} {cc : ByteArray} (hC : rl_C X E cc RX3 rl_BW rl_Ns) (hE : E.2.1 = vwCl) : rl_F X E RX3 rl_BW 9 3 0 := rl_Fo hC (C := RX3) (T := TX3) (N := 5) (by rw [hE]; rfl) (by decide) rfl uX3 (rl_b1 34 rfl rfl)
theorem fX7_81 {X : rl_X} {E : rl_E} {cc : ByteArray} (hC : rl_C X E cc RX7 rl_BW rl_Ns) (hE : E.2.1 = vwCl) : rl_F X E RX7 rl_BW 81 3 0 := rl_Fn hC (C := RX3) (T := TX3) (N := 5) "RowLineage" (by rw [hE]; rfl) (by decide) rfl uX3 (rl_n1 35 rfl rfl)
theorem fX3_15 {X : rl_X} {E : rl_E} {cc : ByteArray} (hC : rl_C X E cc RX3 rl_BW rl_Ns) (hE : E.2.1 = vwCl) : rl_F X E RX3 rl_BW 15 3 1 := rl_Fo hC (C := RX3) (T := TX3) (N := 5) (by rw [hE]; rfl) (by decide) rfl uX3 (rl_b1 36 rfl rfl)
theorem fX2_85 {X : rl_X} {E : rl_E} {cc : ByteArray} (hC : rl_C X E cc RX2 rl_BW rl_Ns) (hE : E.2.1 = vwCl) : rl_F X E RX2 rl_BW 85 3 1 := rl_Fn hC (C := RX3) (T := TX3) (N := 5) "RowLineage" (by rw [hE]; rfl) (by decide) rfl uX3 (rl_n1 37 rfl rfl)
theorem fX3_20 {X : rl_X} {E : rl_E} {cc : ByteArray} (hC : rl_C X E cc RX3 rl_BW rl_Ns) (hE : E.2.1 = vwCl) : rl_F X E RX3 rl_BW 20 3 2 := rl_Fo hC (C := RX3) (T := TX3) (N := 5) (by rw [hE]; rfl) (by decide) rfl uX3 (rl_b1 38 rfl rfl)
theorem fX2_95 {X : rl_X} {E : rl_E} {cc : ByteArray} (hC : rl_C X E cc RX2 rl_BW rl_Ns) (hE : E.2.1 = vwCl) : rl_F X E RX2 rl_BW 95 3 2 := rl_Fn hC (C := RX3) (T := TX3) (N := 5) "RowLineage" (by rw [hE]; rfl) (by decide) rfl uX3 (rl_n1 39 rfl rfl)
theorem fX3_23 {X : rl_X} {E : rl_E} {cc : ByteArray} (hC : rl_C X E cc RX3 rl_BW rl_Ns) (hE : E.2.1 = vwCl) : rl_F X E RX3 rl_BW 23 3 3 := rl_Fo hC (C := RX3) (T := TX3) (N := 5) (by rw [hE]; rfl) (by decide) rfl uX3 (rl_b1 40 rfl rfl)
theorem fX7_53 {X : rl_X} {E : rl_E} {cc : ByteArray} (hC : rl_C X E cc RX7 rl_BW rl_Ns) (hE : E.2.1 = vwCl) : rl_F X E RX7 rl_BW 53 3 3 := rl_Fn hC (C := RX3) (T := TX3) (N := 5) "RowLineage" (by rw [hE]; rfl) (by decide) rfl uX3 (rl_n1 41 rfl rfl)
theorem fX2_80 {X : rl_X} {E : rl_E} {cc : ByteArray} (hC : rl_C X E cc RX2 rl_BW rl_Ns) (hE : E.2.1 = vwCl) : rl_F X E RX2 rl_BW 80 3 4 := rl_Fn hC (C := RX3) (T := TX3) (N := 5) "RowLineage" (by rw [hE]; rfl) (by decide) rfl uX3 (rl_n1 42 rfl rfl)
theorem fX3_27 {X : rl_X} {E : rl_E} {cc : ByteArray} (hC : rl_C X E cc RX3 rl_BW rl_Ns) (hE : E.2.1 = vwCl) : rl_F X E RX3 rl_BW 27 3 4 := rl_Fo hC (C := RX3) (T := TX3) (N := 5) (by rw [hE]; rfl) (by decide) rfl uX3 (rl_b1 43 rfl rfl)
theorem fX7_64 {X : rl_X} {E : rl_E} {cc : ByteArray} (hC : rl_C X E cc RX7 rl_BW rl_Ns) (hE : E.2.1 = vwCl) : rl_F X E RX7 rl_BW 64 3 4 := rl_Fn hC (C := RX3) (T := TX3) (N := 5) "RowLineage" (by rw [hE]; rfl) (by decide) rfl uX3 (rl_n1 44 rfl rfl)
theorem aw_int : Cond.arrayClass .int ∈ rl_BW := (rl_b1 56 rfl rfl)
theorem kX7_16 : Cond.classLink RX7 16 "RowLineage$Operators" ∈ rl_BW := (rl_b1 57 rfl rfl)
theorem iX2 : Cond.instantiable RX2 5 ∈ rl_BW := (rl_b1 58 rfl rfl)
theorem mX7_18 {X : rl_X} {E : rl_E} {cc : ByteArray} (hC : rl_C X E cc RX7 rl_BW rl_Ns) : rl_M X RX7 18 yX2_init := rl_Mn hC (host := "RowLineage") (rl_n1 59 rfl rfl)
theorem mX2_3 : Cond.methodLink RX2 3 objectInit ∈ rl_BW := (rl_b1 62 rfl rfl)
theorem kX2_9 : Cond.classLink RX2 9 "RowLineage$Draft" ∈ rl_BW := (rl_b1 63 rfl rfl)
theorem iX0 : Cond.instantiable RX0 3 ∈ rl_BW := (rl_b1 64 rfl rfl)
theorem mX2_11 {X : rl_X} {E : rl_E} {cc : ByteArray} (hC : rl_C X E cc RX2 rl_BW rl_Ns) : rl_M X RX2 11 yX0_init := rl_Mn hC (host := "RowLineage") (rl_n1 65 rfl rfl)
theorem mX0_3 : Cond.methodLink RX0 3 objectInit ∈ rl_BW := (rl_b1 68 rfl rfl)
theorem fX0_11 {X : rl_X} {E : rl_E} {cc : ByteArray} (hC : rl_C X E cc RX0 rl_BW rl_Ns) (hE : E.2.1 = vwCl) : rl_F X E RX0 rl_BW 11 0 0 := rl_Fo hC (C := RX0) (T := TX0) (N := 3) (by rw [hE]; rfl) (by decide) rfl uX0 (rl_b1 69 rfl rfl)
theorem fX0_15 {X : rl_X} {E : rl_E} {cc : ByteArray} (hC : rl_C X E cc RX0 rl_BW rl_Ns) (hE : E.2.1 = vwCl) : rl_F X E RX0 rl_BW 15 0 1 := rl_Fo hC (C := RX0) (T := TX0) (N := 3) (by rw [hE]; rfl) (by decide) rfl uX0 (rl_b1 70 rfl rfl)
theorem fX0_18 {X : rl_X} {E : rl_E} {cc : ByteArray} (hC : rl_C X E cc RX0 rl_BW rl_Ns) (hE : E.2.1 = vwCl) : rl_F X E RX0 rl_BW 18 0 2 := rl_Fo hC (C := RX0) (T := TX0) (N := 3) (by rw [hE]; rfl) (by decide) rfl uX0 (rl_b1 71 rfl rfl)
theorem aw_long : Cond.arrayClass .long ∈ rl_BW := (rl_b1 79 rfl rfl)
theorem kX2_18 : Cond.classLink RX2 18 "RowLineage$Ways" ∈ rl_BW := (rl_b1 80 rfl rfl)
theorem iX6 : Cond.instantiable RX6 3 ∈ rl_BW := (rl_b1 81 rfl rfl)
theorem mX2_20 {X : rl_X} {E : rl_E} {cc : ByteArray} (hC : rl_C X E cc RX2 rl_BW rl_Ns) : rl_M X RX2 20 yX6_init := rl_Mn hC (host := "RowLineage") (rl_n1 82 rfl rfl)
theorem mX6_3 : Cond.methodLink RX6 3 objectInit ∈ rl_BW := (rl_b1 85 rfl rfl)
theorem fX6_9 {X : rl_X} {E : rl_E} {cc : ByteArray} (hC : rl_C X E cc RX6 rl_BW rl_Ns) (hE : E.2.1 = vwCl) : rl_F X E RX6 rl_BW 9 6 0 := rl_Fo hC (C := RX6) (T := TX6) (N := 3) (by rw [hE]; rfl) (by decide) rfl uX6 (rl_b1 86 rfl rfl)
theorem fX0_25 {X : rl_X} {E : rl_E} {cc : ByteArray} (hC : rl_C X E cc RX0 rl_BW rl_Ns) (hE : E.2.1 = vwCl) : rl_F X E RX0 rl_BW 25 6 0 := rl_Fn hC (C := RX6) (T := TX6) (N := 3) "RowLineage" (by rw [hE]; rfl) (by decide) rfl uX6 (rl_n1 87 rfl rfl)
theorem fX7_171 {X : rl_X} {E : rl_E} {cc : ByteArray} (hC : rl_C X E cc RX7 rl_BW rl_Ns) (hE : E.2.1 = vwCl) : rl_F X E RX7 rl_BW 171 6 0 := rl_Fn hC (C := RX6) (T := TX6) (N := 3) "RowLineage" (by rw [hE]; rfl) (by decide) rfl uX6 (rl_n1 88 rfl rfl)
theorem fX6_15 {X : rl_X} {E : rl_E} {cc : ByteArray} (hC : rl_C X E cc RX6 rl_BW rl_Ns) (hE : E.2.1 = vwCl) : rl_F X E RX6 rl_BW 15 6 1 := rl_Fo hC (C := RX6) (T := TX6) (N := 3) (by rw [hE]; rfl) (by decide) rfl uX6 (rl_b1 89 rfl rfl)
theorem fX0_26 {X : rl_X} {E : rl_E} {cc : ByteArray} (hC : rl_C X E cc RX0 rl_BW rl_Ns) (hE : E.2.1 = vwCl) : rl_F X E RX0 rl_BW 26 6 1 := rl_Fn hC (C := RX6) (T := TX6) (N := 3) "RowLineage" (by rw [hE]; rfl) (by decide) rfl uX6 (rl_n1 90 rfl rfl)
theorem fX7_175 {X : rl_X} {E : rl_E} {cc : ByteArray} (hC : rl_C X E cc RX7 rl_BW rl_Ns) (hE : E.2.1 = vwCl) : rl_F X E RX7 rl_BW 175 6 1 := rl_Fn hC (C := RX6) (T := TX6) (N := 3) "RowLineage" (by rw [hE]; rfl) (by decide) rfl uX6 (rl_n1 91 rfl rfl)
theorem fX6_18 {X : rl_X} {E : rl_E} {cc : ByteArray} (hC : rl_C X E cc RX6 rl_BW rl_Ns) (hE : E.2.1 = vwCl) : rl_F X E RX6 rl_BW 18 6 2 := rl_Fo hC (C := RX6) (T := TX6) (N := 3) (by rw [hE]; rfl) (by decide) rfl uX6 (rl_b1 92 rfl rfl)
theorem fX0_22 {X : rl_X} {E : rl_E} {cc : ByteArray} (hC : rl_C X E cc RX0 rl_BW rl_Ns) (hE : E.2.1 = vwCl) : rl_F X E RX0 rl_BW 22 6 2 := rl_Fn hC (C := RX6) (T := TX6) (N := 3) "RowLineage" (by rw [hE]; rfl) (by decide) rfl uX6 (rl_n1 93 rfl rfl)
theorem fX7_163 {X : rl_X} {E : rl_E} {cc : ByteArray} (hC : rl_C X E cc RX7 rl_BW rl_Ns) (hE : E.2.1 = vwCl) : rl_F X E RX7 rl_BW 163 6 2 := rl_Fn hC (C := RX6) (T := TX6) (N := 3) "RowLineage" (by rw [hE]; rfl) (by decide) rfl uX6 (rl_n1 94 rfl rfl)
theorem fX2_191 {X : rl_X} {E : rl_E} {cc : ByteArray} (hC : rl_C X E cc RX2 rl_BW rl_Ns) (hE : E.2.1 = vwCl) : rl_F X E RX2 rl_BW 191 6 2 := rl_Fn hC (C := RX6) (T := TX6) (N := 3) "RowLineage" (by rw [hE]; rfl) (by decide) rfl uX6 (rl_n1 95 rfl rfl)
theorem aoX6 : Cond.arrayOver (.object RX6) ∈ rl_Ns := (rl_n1 103 rfl rfl)
theorem kX2_29 : Cond.classLink RX2 29 "RowLineage$Tuple" ∈ rl_BW := (rl_b1 104 rfl rfl)
theorem aoX5 : Cond.arrayOver (.object RX5) ∈ rl_Ns := (rl_n1 105 rfl rfl)
theorem fX2_12 {X : rl_X} {E : rl_E} {cc : ByteArray} (hC : rl_C X E cc RX2 rl_BW rl_Ns) (hE : E.2.1 = vwCl) : rl_F X E RX2 rl_BW 12 2 0 := rl_Fo hC (C := RX2) (T := TX2) (N := 5) (by rw [hE]; rfl) (by decide) rfl uX2 (rl_b1 106 rfl rfl)
theorem fX7_245 {X : rl_X} {E : rl_E} {cc : ByteArray} (hC : rl_C X E cc RX7 rl_BW rl_Ns) (hE : E.2.1 = vwCl) : rl_F X E RX7 rl_BW 245 2 0 := rl_Fn hC (C := RX2) (T := TX2) (N := 5) "RowLineage" (by rw [hE]; rfl) (by decide) rfl uX2 (rl_n1 107 rfl rfl)
theorem fX2_21 {X : rl_X} {E : rl_E} {cc : ByteArray} (hC : rl_C X E cc RX2 rl_BW rl_Ns) (hE : E.2.1 = vwCl) : rl_F X E RX2 rl_BW 21 2 1 := rl_Fo hC (C := RX2) (T := TX2) (N := 5) (by rw [hE]; rfl) (by decide) rfl uX2 (rl_b1 108 rfl rfl)
theorem fX2_25 {X : rl_X} {E : rl_E} {cc : ByteArray} (hC : rl_C X E cc RX2 rl_BW rl_Ns) (hE : E.2.1 = vwCl) : rl_F X E RX2 rl_BW 25 2 2 := rl_Fo hC (C := RX2) (T := TX2) (N := 5) (by rw [hE]; rfl) (by decide) rfl uX2 (rl_b1 109 rfl rfl)
theorem fX2_31 {X : rl_X} {E : rl_E} {cc : ByteArray} (hC : rl_C X E cc RX2 rl_BW rl_Ns) (hE : E.2.1 = vwCl) : rl_F X E RX2 rl_BW 31 2 3 := rl_Fo hC (C := RX2) (T := TX2) (N := 5) (by rw [hE]; rfl) (by decide) rfl uX2 (rl_b1 110 rfl rfl)
theorem fX2_35 {X : rl_X} {E : rl_E} {cc : ByteArray} (hC : rl_C X E cc RX2 rl_BW rl_Ns) (hE : E.2.1 = vwCl) : rl_F X E RX2 rl_BW 35 2 4 := rl_Fo hC (C := RX2) (T := TX2) (N := 5) (by rw [hE]; rfl) (by decide) rfl uX2 (rl_b1 111 rfl rfl)
theorem kX7_23 : Cond.classLink RX7 23 "RowLineage$Node" ∈ rl_BW := (rl_b1 123 rfl rfl)
theorem aoX1 : Cond.arrayOver (.object RX1) ∈ rl_Ns := (rl_n1 124 rfl rfl)
theorem kX7_29 : Cond.classLink RX7 29 "RowLineage$Table" ∈ rl_BW := (rl_b1 125 rfl rfl)
theorem aoX4 : Cond.arrayOver (.object RX4) ∈ rl_Ns := (rl_n1 126 rfl rfl)
theorem iX4 : Cond.instantiable RX4 3 ∈ rl_BW := (rl_b1 127 rfl rfl)
theorem mX7_35 {X : rl_X} {E : rl_E} {cc : ByteArray} (hC : rl_C X E cc RX7 rl_BW rl_Ns) : rl_M X RX7 35 yX4_init := rl_Mn hC (host := "RowLineage") (rl_n1 128 rfl rfl)
theorem mX4_3 : Cond.methodLink RX4 3 objectInit ∈ rl_BW := (rl_b1 131 rfl rfl)
theorem kX4_9 : Cond.classLink RX4 9 "RowLineage$Tuple" ∈ rl_BW := (rl_b1 132 rfl rfl)
theorem iX5 : Cond.instantiable RX5 2 ∈ rl_BW := (rl_b1 133 rfl rfl)
theorem mX4_17 {X : rl_X} {E : rl_E} {cc : ByteArray} (hC : rl_C X E cc RX4 rl_BW rl_Ns) : rl_M X RX4 17 yX5_init := rl_Mn hC (host := "RowLineage") (rl_n1 134 rfl rfl)
theorem mX5_3 : Cond.methodLink RX5 3 objectInit ∈ rl_BW := (rl_b1 137 rfl rfl)
theorem kX5_15 : Cond.classLink RX5 15 "RowLineage$Ways" ∈ rl_BW := (rl_b1 138 rfl rfl)
theorem mX5_17 {X : rl_X} {E : rl_E} {cc : ByteArray} (hC : rl_C X E cc RX5 rl_BW rl_Ns) : rl_M X RX5 17 yX6_init := rl_Mn hC (host := "RowLineage") (rl_n1 139 rfl rfl)
theorem fX5_9 {X : rl_X} {E : rl_E} {cc : ByteArray} (hC : rl_C X E cc RX5 rl_BW rl_Ns) (hE : E.2.1 = vwCl) : rl_F X E RX5 rl_BW 9 5 0 := rl_Fo hC (C := RX5) (T := TX5) (N := 2) (by rw [hE]; rfl) (by decide) rfl uX5 (rl_b1 140 rfl rfl)
theorem fX4_29 {X : rl_X} {E : rl_E} {cc : ByteArray} (hC : rl_C X E cc RX4 rl_BW rl_Ns) (hE : E.2.1 = vwCl) : rl_F X E RX4 rl_BW 29 5 0 := rl_Fn hC (C := RX5) (T := TX5) (N := 2) "RowLineage" (by rw [hE]; rfl) (by decide) rfl uX5 (rl_n1 141 rfl rfl)
theorem fX2_109 {X : rl_X} {E : rl_E} {cc : ByteArray} (hC : rl_C X E cc RX2 rl_BW rl_Ns) (hE : E.2.1 = vwCl) : rl_F X E RX2 rl_BW 109 5 0 := rl_Fn hC (C := RX5) (T := TX5) (N := 2) "RowLineage" (by rw [hE]; rfl) (by decide) rfl uX5 (rl_n1 142 rfl rfl)
theorem fX7_155 {X : rl_X} {E : rl_E} {cc : ByteArray} (hC : rl_C X E cc RX7 rl_BW rl_Ns) (hE : E.2.1 = vwCl) : rl_F X E RX7 rl_BW 155 5 0 := rl_Fn hC (C := RX5) (T := TX5) (N := 2) "RowLineage" (by rw [hE]; rfl) (by decide) rfl uX5 (rl_n1 143 rfl rfl)
theorem fX5_18 {X : rl_X} {E : rl_E} {cc : ByteArray} (hC : rl_C X E cc RX5 rl_BW rl_Ns) (hE : E.2.1 = vwCl) : rl_F X E RX5 rl_BW 18 5 1 := rl_Fo hC (C := RX5) (T := TX5) (N := 2) (by rw [hE]; rfl) (by decide) rfl uX5 (rl_b1 144 rfl rfl)
theorem fX2_116 {X : rl_X} {E : rl_E} {cc : ByteArray} (hC : rl_C X E cc RX2 rl_BW rl_Ns) (hE : E.2.1 = vwCl) : rl_F X E RX2 rl_BW 116 5 1 := rl_Fn hC (C := RX5) (T := TX5) (N := 2) "RowLineage" (by rw [hE]; rfl) (by decide) rfl uX5 (rl_n1 145 rfl rfl)
theorem fX4_41 {X : rl_X} {E : rl_E} {cc : ByteArray} (hC : rl_C X E cc RX4 rl_BW rl_Ns) (hE : E.2.1 = vwCl) : rl_F X E RX4 rl_BW 41 5 1 := rl_Fn hC (C := RX5) (T := TX5) (N := 2) "RowLineage" (by rw [hE]; rfl) (by decide) rfl uX5 (rl_n1 146 rfl rfl)
theorem fX7_160 {X : rl_X} {E : rl_E} {cc : ByteArray} (hC : rl_C X E cc RX7 rl_BW rl_Ns) (hE : E.2.1 = vwCl) : rl_F X E RX7 rl_BW 160 5 1 := rl_Fn hC (C := RX5) (T := TX5) (N := 2) "RowLineage" (by rw [hE]; rfl) (by decide) rfl uX5 (rl_n1 147 rfl rfl)
theorem fX4_11 {X : rl_X} {E : rl_E} {cc : ByteArray} (hC : rl_C X E cc RX4 rl_BW rl_Ns) (hE : E.2.1 = vwCl) : rl_F X E RX4 rl_BW 11 4 0 := rl_Fo hC (C := RX4) (T := TX4) (N := 3) (by rw [hE]; rfl) (by decide) rfl uX4 (rl_b1 153 rfl rfl)
theorem fX2_106 {X : rl_X} {E : rl_E} {cc : ByteArray} (hC : rl_C X E cc RX2 rl_BW rl_Ns) (hE : E.2.1 = vwCl) : rl_F X E RX2 rl_BW 106 4 0 := rl_Fn hC (C := RX4) (T := TX4) (N := 3) "RowLineage" (by rw [hE]; rfl) (by decide) rfl uX4 (rl_n1 154 rfl rfl)
theorem fX7_195 {X : rl_X} {E : rl_E} {cc : ByteArray} (hC : rl_C X E cc RX7 rl_BW rl_Ns) (hE : E.2.1 = vwCl) : rl_F X E RX7 rl_BW 195 4 0 := rl_Fn hC (C := RX4) (T := TX4) (N := 3) "RowLineage" (by rw [hE]; rfl) (by decide) rfl uX4 (rl_n1 155 rfl rfl)
theorem fX4_18 {X : rl_X} {E : rl_E} {cc : ByteArray} (hC : rl_C X E cc RX4 rl_BW rl_Ns) (hE : E.2.1 = vwCl) : rl_F X E RX4 rl_BW 18 4 1 := rl_Fo hC (C := RX4) (T := TX4) (N := 3) (by rw [hE]; rfl) (by decide) rfl uX4 (rl_b1 156 rfl rfl)
theorem fX2_103 {X : rl_X} {E : rl_E} {cc : ByteArray} (hC : rl_C X E cc RX2 rl_BW rl_Ns) (hE : E.2.1 = vwCl) : rl_F X E RX2 rl_BW 103 4 1 := rl_Fn hC (C := RX4) (T := TX4) (N := 3) "RowLineage" (by rw [hE]; rfl) (by decide) rfl uX4 (rl_n1 157 rfl rfl)
theorem fX7_138 {X : rl_X} {E : rl_E} {cc : ByteArray} (hC : rl_C X E cc RX7 rl_BW rl_Ns) (hE : E.2.1 = vwCl) : rl_F X E RX7 rl_BW 138 4 1 := rl_Fn hC (C := RX4) (T := TX4) (N := 3) "RowLineage" (by rw [hE]; rfl) (by decide) rfl uX4 (rl_n1 158 rfl rfl)
theorem fX4_22 {X : rl_X} {E : rl_E} {cc : ByteArray} (hC : rl_C X E cc RX4 rl_BW rl_Ns) (hE : E.2.1 = vwCl) : rl_F X E RX4 rl_BW 22 4 2 := rl_Fo hC (C := RX4) (T := TX4) (N := 3) (by rw [hE]; rfl) (by decide) rfl uX4 (rl_b1 159 rfl rfl)
theorem fX2_132 {X : rl_X} {E : rl_E} {cc : ByteArray} (hC : rl_C X E cc RX2 rl_BW rl_Ns) (hE : E.2.1 = vwCl) : rl_F X E RX2 rl_BW 132 4 2 := rl_Fn hC (C := RX4) (T := TX4) (N := 3) "RowLineage" (by rw [hE]; rfl) (by decide) rfl uX4 (rl_n1 160 rfl rfl)
theorem fX7_152 {X : rl_X} {E : rl_E} {cc : ByteArray} (hC : rl_C X E cc RX7 rl_BW rl_Ns) (hE : E.2.1 = vwCl) : rl_F X E RX7 rl_BW 152 4 2 := rl_Fn hC (C := RX4) (T := TX4) (N := 3) "RowLineage" (by rw [hE]; rfl) (by decide) rfl uX4 (rl_n1 161 rfl rfl)
theorem kX7_42 : Cond.classLink RX7 42 "RowLineage$Ways" ∈ rl_BW := (rl_b1 169 rfl rfl)
theorem mX7_44 {X : rl_X} {E : rl_E} {cc : ByteArray} (hC : rl_C X E cc RX7 rl_BW rl_Ns) : rl_M X RX7 44 yX6_init := rl_Mn hC (host := "RowLineage") (rl_n1 170 rfl rfl)
theorem fX7_10 {X : rl_X} {E : rl_E} {cc : ByteArray} (hC : rl_C X E cc RX7 rl_BW rl_Ns) (hE : E.2.1 = vwCl) : rl_F X E RX7 rl_BW 10 7 0 := rl_Fo hC (C := RX7) (T := TX7) (N := 9) (by rw [hE]; rfl) (by decide) rfl uX7 (rl_b1 171 rfl rfl)
theorem fX7_19 {X : rl_X} {E : rl_E} {cc : ByteArray} (hC : rl_C X E cc RX7 rl_BW rl_Ns) (hE : E.2.1 = vwCl) : rl_F X E RX7 rl_BW 19 7 1 := rl_Fo hC (C := RX7) (T := TX7) (N := 9) (by rw [hE]; rfl) (by decide) rfl uX7 (rl_b1 172 rfl rfl)
theorem fX7_25 {X : rl_X} {E : rl_E} {cc : ByteArray} (hC : rl_C X E cc RX7 rl_BW rl_Ns) (hE : E.2.1 = vwCl) : rl_F X E RX7 rl_BW 25 7 2 := rl_Fo hC (C := RX7) (T := TX7) (N := 9) (by rw [hE]; rfl) (by decide) rfl uX7 (rl_b1 173 rfl rfl)
theorem fX7_31 {X : rl_X} {E : rl_E} {cc : ByteArray} (hC : rl_C X E cc RX7 rl_BW rl_Ns) (hE : E.2.1 = vwCl) : rl_F X E RX7 rl_BW 31 7 3 := rl_Fo hC (C := RX7) (T := TX7) (N := 9) (by rw [hE]; rfl) (by decide) rfl uX7 (rl_b1 174 rfl rfl)
theorem fX7_38 {X : rl_X} {E : rl_E} {cc : ByteArray} (hC : rl_C X E cc RX7 rl_BW rl_Ns) (hE : E.2.1 = vwCl) : rl_F X E RX7 rl_BW 38 7 4 := rl_Fo hC (C := RX7) (T := TX7) (N := 9) (by rw [hE]; rfl) (by decide) rfl uX7 (rl_b1 175 rfl rfl)
theorem fX7_45 {X : rl_X} {E : rl_E} {cc : ByteArray} (hC : rl_C X E cc RX7 rl_BW rl_Ns) (hE : E.2.1 = vwCl) : rl_F X E RX7 rl_BW 45 7 5 := rl_Fo hC (C := RX7) (T := TX7) (N := 9) (by rw [hE]; rfl) (by decide) rfl uX7 (rl_b1 176 rfl rfl)
theorem fX7_78 {X : rl_X} {E : rl_E} {cc : ByteArray} (hC : rl_C X E cc RX7 rl_BW rl_Ns) (hE : E.2.1 = vwCl) : rl_F X E RX7 rl_BW 78 7 6 := rl_Fo hC (C := RX7) (T := TX7) (N := 9) (by rw [hE]; rfl) (by decide) rfl uX7 (rl_b1 177 rfl rfl)
theorem fX7_49 {X : rl_X} {E : rl_E} {cc : ByteArray} (hC : rl_C X E cc RX7 rl_BW rl_Ns) (hE : E.2.1 = vwCl) : rl_F X E RX7 rl_BW 49 7 7 := rl_Fo hC (C := RX7) (T := TX7) (N := 9) (by rw [hE]; rfl) (by decide) rfl uX7 (rl_b1 178 rfl rfl)
theorem fX7_71 {X : rl_X} {E : rl_E} {cc : ByteArray} (hC : rl_C X E cc RX7 rl_BW rl_Ns) (hE : E.2.1 = vwCl) : rl_F X E RX7 rl_BW 71 7 8 := rl_Fo hC (C := RX7) (T := TX7) (N := 9) (by rw [hE]; rfl) (by decide) rfl uX7 (rl_b1 179 rfl rfl)
theorem mL_25 {X : rl_X} {E : rl_E} {cc : ByteArray} (hC : rl_C X E cc RL rl_BW rl_Ns) : rl_M X RL 25 yX7_source := rl_Mo hC (rl_b1 199 rfl rfl)
theorem mX7_56 {X : rl_X} {E : rl_E} {cc : ByteArray} (hC : rl_C X E cc RX7 rl_BW rl_Ns) : rl_M X RX7 56 yX3_addSource := rl_Mn hC (host := "RowLineage") (rl_n1 203 rfl rfl)
theorem mL_30 {X : rl_X} {E : rl_E} {cc : ByteArray} (hC : rl_C X E cc RL rl_BW rl_Ns) : rl_M X RL 30 yX7_row := rl_Mo hC (rl_b1 207 rfl rfl)
theorem mX7_60 {X : rl_X} {E : rl_E} {cc : ByteArray} (hC : rl_C X E cc RX7 rl_BW rl_Ns) : rl_M X RX7 60 yX3_isSource := rl_Mn hC (host := "RowLineage") (rl_n1 211 rfl rfl)
theorem mX7_67 {X : rl_X} {E : rl_E} {cc : ByteArray} (hC : rl_C X E cc RX7 rl_BW rl_Ns) : rl_M X RX7 67 yX3_addRow := rl_Mn hC (host := "RowLineage") (rl_n1 215 rfl rfl)
theorem mX7_75 {X : rl_X} {E : rl_E} {cc : ByteArray} (hC : rl_C X E cc RX7 rl_BW rl_Ns) : rl_M X RX7 75 yX7_forgetWhatNodesGave := rl_Mo hC (rl_b1 219 rfl rfl)
theorem mL_35 {X : rl_X} {E : rl_E} {cc : ByteArray} (hC : rl_C X E cc RL rl_BW rl_Ns) : rl_M X RL 35 yX7_scan := rl_Mo hC (rl_b1 223 rfl rfl)
theorem mX7_85 {X : rl_X} {E : rl_E} {cc : ByteArray} (hC : rl_C X E cc RX7 rl_BW rl_Ns) : rl_M X RX7 85 yX7_openNode := rl_Mo hC (rl_b1 227 rfl rfl)
theorem iX1 : Cond.instantiable RX1 9 ∈ rl_BW := (rl_b1 231 rfl rfl)
theorem mX7_229 {X : rl_X} {E : rl_E} {cc : ByteArray} (hC : rl_C X E cc RX7 rl_BW rl_Ns) : rl_M X RX7 229 yX1_init := rl_Mn hC (host := "RowLineage") (rl_n1 232 rfl rfl)
theorem mX1_3 : Cond.methodLink RX1 3 objectInit ∈ rl_BW := (rl_b1 235 rfl rfl)
theorem fX1_9 {X : rl_X} {E : rl_E} {cc : ByteArray} (hC : rl_C X E cc RX1 rl_BW rl_Ns) (hE : E.2.1 = vwCl) : rl_F X E RX1 rl_BW 9 1 0 := rl_Fo hC (C := RX1) (T := TX1) (N := 9) (by rw [hE]; rfl) (by decide) rfl uX1 (rl_b1 236 rfl rfl)
theorem fX2_51 {X : rl_X} {E : rl_E} {cc : ByteArray} (hC : rl_C X E cc RX2 rl_BW rl_Ns) (hE : E.2.1 = vwCl) : rl_F X E RX2 rl_BW 51 1 0 := rl_Fn hC (C := RX1) (T := TX1) (N := 9) "RowLineage" (by rw [hE]; rfl) (by decide) rfl uX1 (rl_n1 237 rfl rfl)
theorem fX2_39 {X : rl_X} {E : rl_E} {cc : ByteArray} (hC : rl_C X E cc RX2 rl_BW rl_Ns) (hE : E.2.1 = vwCl) : rl_F X E RX2 rl_BW 39 1 1 := rl_Fn hC (C := RX1) (T := TX1) (N := 9) "RowLineage" (by rw [hE]; rfl) (by decide) rfl uX1 (rl_n1 238 rfl rfl)
theorem fX1_15 {X : rl_X} {E : rl_E} {cc : ByteArray} (hC : rl_C X E cc RX1 rl_BW rl_Ns) (hE : E.2.1 = vwCl) : rl_F X E RX1 rl_BW 15 1 1 := rl_Fo hC (C := RX1) (T := TX1) (N := 9) (by rw [hE]; rfl) (by decide) rfl uX1 (rl_b1 239 rfl rfl)
theorem fX7_97 {X : rl_X} {E : rl_E} {cc : ByteArray} (hC : rl_C X E cc RX7 rl_BW rl_Ns) (hE : E.2.1 = vwCl) : rl_F X E RX7 rl_BW 97 1 1 := rl_Fn hC (C := RX1) (T := TX1) (N := 9) "RowLineage" (by rw [hE]; rfl) (by decide) rfl uX1 (rl_n2 0 rfl rfl)
theorem fX1_18 {X : rl_X} {E : rl_E} {cc : ByteArray} (hC : rl_C X E cc RX1 rl_BW rl_Ns) (hE : E.2.1 = vwCl) : rl_F X E RX1 rl_BW 18 1 2 := rl_Fo hC (C := RX1) (T := TX1) (N := 9) (by rw [hE]; rfl) (by decide) rfl uX1 (rl_b2 1 rfl rfl)
theorem fX7_124 {X : rl_X} {E : rl_E} {cc : ByteArray} (hC : rl_C X E cc RX7 rl_BW rl_Ns) (hE : E.2.1 = vwCl) : rl_F X E RX7 rl_BW 124 1 2 := rl_Fn hC (C := RX1) (T := TX1) (N := 9) "RowLineage" (by rw [hE]; rfl) (by decide) rfl uX1 (rl_n2 2 rfl rfl)
theorem fX1_21 {X : rl_X} {E : rl_E} {cc : ByteArray} (hC : rl_C X E cc RX1 rl_BW rl_Ns) (hE : E.2.1 = vwCl) : rl_F X E RX1 rl_BW 21 1 3 := rl_Fo hC (C := RX1) (T := TX1) (N := 9) (by rw [hE]; rfl) (by decide) rfl uX1 (rl_b2 3 rfl rfl)
theorem fX7_131 {X : rl_X} {E : rl_E} {cc : ByteArray} (hC : rl_C X E cc RX7 rl_BW rl_Ns) (hE : E.2.1 = vwCl) : rl_F X E RX7 rl_BW 131 1 3 := rl_Fn hC (C := RX1) (T := TX1) (N := 9) "RowLineage" (by rw [hE]; rfl) (by decide) rfl uX1 (rl_n2 4 rfl rfl)
theorem fX1_27 {X : rl_X} {E : rl_E} {cc : ByteArray} (hC : rl_C X E cc RX1 rl_BW rl_Ns) (hE : E.2.1 = vwCl) : rl_F X E RX1 rl_BW 27 1 4 := rl_Fo hC (C := RX1) (T := TX1) (N := 9) (by rw [hE]; rfl) (by decide) rfl uX1 (rl_b2 5 rfl rfl)
theorem fX2_119 {X : rl_X} {E : rl_E} {cc : ByteArray} (hC : rl_C X E cc RX2 rl_BW rl_Ns) (hE : E.2.1 = vwCl) : rl_F X E RX2 rl_BW 119 1 4 := rl_Fn hC (C := RX1) (T := TX1) (N := 9) "RowLineage" (by rw [hE]; rfl) (by decide) rfl uX1 (rl_n2 6 rfl rfl)
theorem fX1_30 {X : rl_X} {E : rl_E} {cc : ByteArray} (hC : rl_C X E cc RX1 rl_BW rl_Ns) (hE : E.2.1 = vwCl) : rl_F X E RX1 rl_BW 30 1 5 := rl_Fo hC (C := RX1) (T := TX1) (N := 9) (by rw [hE]; rfl) (by decide) rfl uX1 (rl_b2 7 rfl rfl)
theorem fX2_122 {X : rl_X} {E : rl_E} {cc : ByteArray} (hC : rl_C X E cc RX2 rl_BW rl_Ns) (hE : E.2.1 = vwCl) : rl_F X E RX2 rl_BW 122 1 5 := rl_Fn hC (C := RX1) (T := TX1) (N := 9) "RowLineage" (by rw [hE]; rfl) (by decide) rfl uX1 (rl_n2 8 rfl rfl)
theorem fX1_33 {X : rl_X} {E : rl_E} {cc : ByteArray} (hC : rl_C X E cc RX1 rl_BW rl_Ns) (hE : E.2.1 = vwCl) : rl_F X E RX1 rl_BW 33 1 6 := rl_Fo hC (C := RX1) (T := TX1) (N := 9) (by rw [hE]; rfl) (by decide) rfl uX1 (rl_b2 9 rfl rfl)
theorem fX2_125 {X : rl_X} {E : rl_E} {cc : ByteArray} (hC : rl_C X E cc RX2 rl_BW rl_Ns) (hE : E.2.1 = vwCl) : rl_F X E RX2 rl_BW 125 1 6 := rl_Fn hC (C := RX1) (T := TX1) (N := 9) "RowLineage" (by rw [hE]; rfl) (by decide) rfl uX1 (rl_n2 10 rfl rfl)
theorem fX1_36 {X : rl_X} {E : rl_E} {cc : ByteArray} (hC : rl_C X E cc RX1 rl_BW rl_Ns) (hE : E.2.1 = vwCl) : rl_F X E RX1 rl_BW 36 1 7 := rl_Fo hC (C := RX1) (T := TX1) (N := 9) (by rw [hE]; rfl) (by decide) rfl uX1 (rl_b2 11 rfl rfl)
theorem fX2_88 {X : rl_X} {E : rl_E} {cc : ByteArray} (hC : rl_C X E cc RX2 rl_BW rl_Ns) (hE : E.2.1 = vwCl) : rl_F X E RX2 rl_BW 88 1 7 := rl_Fn hC (C := RX1) (T := TX1) (N := 9) "RowLineage" (by rw [hE]; rfl) (by decide) rfl uX1 (rl_n2 12 rfl rfl)
theorem fX1_24 {X : rl_X} {E : rl_E} {cc : ByteArray} (hC : rl_C X E cc RX1 rl_BW rl_Ns) (hE : E.2.1 = vwCl) : rl_F X E RX1 rl_BW 24 1 8 := rl_Fo hC (C := RX1) (T := TX1) (N := 9) (by rw [hE]; rfl) (by decide) rfl uX1 (rl_b2 13 rfl rfl)
theorem fX7_121 {X : rl_X} {E : rl_E} {cc : ByteArray} (hC : rl_C X E cc RX7 rl_BW rl_Ns) (hE : E.2.1 = vwCl) : rl_F X E RX7 rl_BW 121 1 8 := rl_Fn hC (C := RX1) (T := TX1) (N := 9) "RowLineage" (by rw [hE]; rfl) (by decide) rfl uX1 (rl_n2 14 rfl rfl)
theorem mX7_230 {X : rl_X} {E : rl_E} {cc : ByteArray} (hC : rl_C X E cc RX7 rl_BW rl_Ns) : rl_M X RX7 230 yX1_describe := rl_Mn hC (host := "RowLineage") (rl_n2 34 rfl rfl)
theorem mX7_89 {X : rl_X} {E : rl_E} {cc : ByteArray} (hC : rl_C X E cc RX7 rl_BW rl_Ns) : rl_M X RX7 89 yX1_detail := rl_Mn hC (host := "RowLineage") (rl_n2 38 rfl rfl)
theorem mL_39 {X : rl_X} {E : rl_E} {cc : ByteArray} (hC : rl_C X E cc RL rl_BW rl_Ns) : rl_M X RL 39 yX7_pick := rl_Mo hC (rl_b2 42 rfl rfl)
theorem mX7_93 {X : rl_X} {E : rl_E} {cc : ByteArray} (hC : rl_C X E cc RX7 rl_BW rl_Ns) : rl_M X RX7 93 yX7_hasColumn := rl_Mo hC (rl_b2 46 rfl rfl)
theorem mX7_100 {X : rl_X} {E : rl_E} {cc : ByteArray} (hC : rl_C X E cc RX7 rl_BW rl_Ns) : rl_M X RX7 100 yX7_isNode := rl_Mo hC (rl_b2 50 rfl rfl)
theorem mL_43 {X : rl_X} {E : rl_E} {cc : ByteArray} (hC : rl_C X E cc RL rl_BW rl_Ns) : rl_M X RL 43 yX7_cols := rl_Mo hC (rl_b2 54 rfl rfl)
theorem nX7_103 : Cond.constant RX7 103 (999999) ∈ rl_BW := (rl_b2 58 rfl rfl)
theorem mX7_104 {X : rl_X} {E : rl_E} {cc : ByteArray} (hC : rl_C X E cc RX7 rl_BW rl_Ns) : rl_M X RX7 104 yX7_leastDigit := rl_Mo hC (rl_b2 59 rfl rfl)
theorem mX7_236 {X : rl_X} {E : rl_E} {cc : ByteArray} (hC : rl_C X E cc RX7 rl_BW rl_Ns) : rl_M X RX7 236 yJ9_min_7cf53 := rl_Mo hC (rl_b2 62 rfl rfl)
theorem mX7_107 {X : rl_X} {E : rl_E} {cc : ByteArray} (hC : rl_C X E cc RX7 rl_BW rl_Ns) : rl_M X RX7 107 yX7_greatestDigit := rl_Mo hC (rl_b2 65 rfl rfl)
theorem mX7_242 {X : rl_X} {E : rl_E} {cc : ByteArray} (hC : rl_C X E cc RX7 rl_BW rl_Ns) : rl_M X RX7 242 yJ9_max_7cf53 := rl_Mo hC (rl_b2 68 rfl rfl)
theorem mX7_110 {X : rl_X} {E : rl_E} {cc : ByteArray} (hC : rl_C X E cc RX7 rl_BW rl_Ns) : rl_M X RX7 110 yX7_digitCount := rl_Mo hC (rl_b2 71 rfl rfl)
theorem mL_47 {X : rl_X} {E : rl_E} {cc : ByteArray} (hC : rl_C X E cc RL rl_BW rl_Ns) : rl_M X RL 47 yX7_join := rl_Mo hC (rl_b2 74 rfl rfl)
theorem mL_52 {X : rl_X} {E : rl_E} {cc : ByteArray} (hC : rl_C X E cc RL rl_BW rl_Ns) : rl_M X RL 52 yX7_unite := rl_Mo hC (rl_b2 78 rfl rfl)
theorem mX7_113 {X : rl_X} {E : rl_E} {cc : ByteArray} (hC : rl_C X E cc RX7 rl_BW rl_Ns) : rl_M X RX7 113 yX7_addAlikeNode := rl_Mo hC (rl_b2 82 rfl rfl)
theorem mL_56 {X : rl_X} {E : rl_E} {cc : ByteArray} (hC : rl_C X E cc RL rl_BW rl_Ns) : rl_M X RL 56 yX7_minus := rl_Mo hC (rl_b2 86 rfl rfl)
theorem mL_60 {X : rl_X} {E : rl_E} {cc : ByteArray} (hC : rl_C X E cc RL rl_BW rl_Ns) : rl_M X RL 60 yX7_fold := rl_Mo hC (rl_b2 90 rfl rfl)
theorem mL_64 {X : rl_X} {E : rl_E} {cc : ByteArray} (hC : rl_C X E cc RL rl_BW rl_Ns) : rl_M X RL 64 yX7_columns := rl_Mo hC (rl_b2 94 rfl rfl)
theorem mL_68 {X : rl_X} {E : rl_E} {cc : ByteArray} (hC : rl_C X E cc RL rl_BW rl_Ns) : rl_M X RL 68 yX7_run := rl_Mo hC (rl_b2 98 rfl rfl)
theorem mX7_117 {X : rl_X} {E : rl_E} {cc : ByteArray} (hC : rl_C X E cc RX7 rl_BW rl_Ns) : rl_M X RX7 117 yX7_neededNodes := rl_Mo hC (rl_b2 102 rfl rfl)
theorem mX7_233 {X : rl_X} {E : rl_E} {cc : ByteArray} (hC : rl_C X E cc RX7 rl_BW rl_Ns) : rl_M X RX7 233 yX7_bitOfNode := rl_Mo hC (rl_b2 106 rfl rfl)
theorem mX7_127 {X : rl_X} {E : rl_E} {cc : ByteArray} (hC : rl_C X E cc RX7 rl_BW rl_Ns) : rl_M X RX7 127 yX7_tableOf := rl_Mo hC (rl_b2 110 rfl rfl)
theorem mX7_134 {X : rl_X} {E : rl_E} {cc : ByteArray} (hC : rl_C X E cc RX7 rl_BW rl_Ns) : rl_M X RX7 134 yX2_fill := rl_Mn hC (host := "RowLineage") (rl_n2 114 rfl rfl)
theorem mX2_45 {X : rl_X} {E : rl_E} {cc : ByteArray} (hC : rl_C X E cc RX2 rl_BW rl_Ns) : rl_M X RX2 45 yX4_begin := rl_Mn hC (host := "RowLineage") (rl_n2 118 rfl rfl)
theorem mX2_54 {X : rl_X} {E : rl_E} {cc : ByteArray} (hC : rl_C X E cc RX2 rl_BW rl_Ns) : rl_M X RX2 54 yX2_fillScan := rl_Mo hC (rl_b2 122 rfl rfl)
theorem mX2_91 {X : rl_X} {E : rl_E} {cc : ByteArray} (hC : rl_C X E cc RX2 rl_BW rl_Ns) : rl_M X RX2 91 yX6_becomeTerm := rl_Mn hC (host := "RowLineage") (rl_n2 126 rfl rfl)
theorem mX2_99 {X : rl_X} {E : rl_E} {cc : ByteArray} (hC : rl_C X E cc RX2 rl_BW rl_Ns) : rl_M X RX2 99 yX2_put := rl_Mo hC (rl_b2 130 rfl rfl)
theorem mX2_192 {X : rl_X} {E : rl_E} {cc : ByteArray} (hC : rl_C X E cc RX2 rl_BW rl_Ns) : rl_M X RX2 192 yX4_findOrAdd := rl_Mn hC (host := "RowLineage") (rl_n2 134 rfl rfl)
theorem mX4_25 {X : rl_X} {E : rl_E} {cc : ByteArray} (hC : rl_C X E cc RX4 rl_BW rl_Ns) : rl_M X RX4 25 yX4_firstBehind := rl_Mo hC (rl_b2 138 rfl rfl)
theorem mX4_33 {X : rl_X} {E : rl_E} {cc : ByteArray} (hC : rl_C X E cc RX4 rl_BW rl_Ns) : rl_M X RX4 33 yX4_order := rl_Mo hC (rl_b2 142 rfl rfl)
theorem mX4_37 {X : rl_X} {E : rl_E} {cc : ByteArray} (hC : rl_C X E cc RX4 rl_BW rl_Ns) : rl_M X RX4 37 yX5_become := rl_Mn hC (host := "RowLineage") (rl_n2 146 rfl rfl)
theorem mX5_28 {X : rl_X} {E : rl_E} {cc : ByteArray} (hC : rl_C X E cc RX5 rl_BW rl_Ns) : rl_M X RX5 28 yX6_becomeFalse := rl_Mn hC (host := "RowLineage") (rl_n2 153 rfl rfl)
theorem mX2_195 {X : rl_X} {E : rl_E} {cc : ByteArray} (hC : rl_C X E cc RX2 rl_BW rl_Ns) : rl_M X RX2 195 yX0_either := rl_Mn hC (host := "RowLineage") (rl_n2 157 rfl rfl)
theorem mX0_27 {X : rl_X} {E : rl_E} {cc : ByteArray} (hC : rl_C X E cc RX0 rl_BW rl_Ns) : rl_M X RX0 27 yX0_add := rl_Mo hC (rl_b2 161 rfl rfl)
theorem nX0_42 : Cond.constantLong RX0 42 (-1) ∈ rl_BW := (rl_b2 165 rfl rfl)
theorem mX0_31 {X : rl_X} {E : rl_E} {cc : ByteArray} (hC : rl_C X E cc RX0 rl_BW rl_Ns) : rl_M X RX0 31 yX0_settle := rl_Mo hC (rl_b2 166 rfl rfl)
theorem mX0_44 {X : rl_X} {E : rl_E} {cc : ByteArray} (hC : rl_C X E cc RX0 rl_BW rl_Ns) : rl_M X RX0 44 yX6_becomeFalse := rl_Mn hC (host := "RowLineage") (rl_n2 170 rfl rfl)
theorem mX0_47 {X : rl_X} {E : rl_E} {cc : ByteArray} (hC : rl_C X E cc RX0 rl_BW rl_Ns) : rl_M X RX0 47 yX6_insert := rl_Mn hC (host := "RowLineage") (rl_n2 171 rfl rfl)
theorem mX2_58 {X : rl_X} {E : rl_E} {cc : ByteArray} (hC : rl_C X E cc RX2 rl_BW rl_Ns) : rl_M X RX2 58 yX2_fillPick := rl_Mo hC (rl_b2 175 rfl rfl)
theorem mX2_112 {X : rl_X} {E : rl_E} {cc : ByteArray} (hC : rl_C X E cc RX2 rl_BW rl_Ns) : rl_M X RX2 112 yX2_isPicked := rl_Mo hC (rl_b2 179 rfl rfl)
theorem mX2_62 {X : rl_X} {E : rl_E} {cc : ByteArray} (hC : rl_C X E cc RX2 rl_BW rl_Ns) : rl_M X RX2 62 yX2_fillCols := rl_Mo hC (rl_b2 182 rfl rfl)
theorem mX2_65 {X : rl_X} {E : rl_E} {cc : ByteArray} (hC : rl_C X E cc RX2 rl_BW rl_Ns) : rl_M X RX2 65 yX2_fillJoin := rl_Mo hC (rl_b2 186 rfl rfl)
theorem mX2_128 {X : rl_X} {E : rl_E} {cc : ByteArray} (hC : rl_C X E cc RX2 rl_BW rl_Ns) : rl_M X RX2 128 yX2_putPair := rl_Mo hC (rl_b2 190 rfl rfl)
theorem mX2_139 {X : rl_X} {E : rl_E} {cc : ByteArray} (hC : rl_C X E cc RX2 rl_BW rl_Ns) : rl_M X RX2 139 yX0_both := rl_Mn hC (host := "RowLineage") (rl_n2 195 rfl rfl)
theorem mX2_69 {X : rl_X} {E : rl_E} {cc : ByteArray} (hC : rl_C X E cc RX2 rl_BW rl_Ns) : rl_M X RX2 69 yX2_putAll := rl_Mo hC (rl_b2 199 rfl rfl)
theorem mX2_73 {X : rl_X} {E : rl_E} {cc : ByteArray} (hC : rl_C X E cc RX2 rl_BW rl_Ns) : rl_M X RX2 73 yX2_fillMinus := rl_Mo hC (rl_b2 203 rfl rfl)
theorem mX2_143 {X : rl_X} {E : rl_E} {cc : ByteArray} (hC : rl_C X E cc RX2 rl_BW rl_Ns) : rl_M X RX2 143 yX4_find := rl_Mn hC (host := "RowLineage") (rl_n2 207 rfl rfl)
theorem mX2_147 {X : rl_X} {E : rl_E} {cc : ByteArray} (hC : rl_C X E cc RX2 rl_BW rl_Ns) : rl_M X RX2 147 yX2_putWithout := rl_Mo hC (rl_b2 211 rfl rfl)
theorem mX2_151 {X : rl_X} {E : rl_E} {cc : ByteArray} (hC : rl_C X E cc RX2 rl_BW rl_Ns) : rl_M X RX2 151 yX0_not := rl_Mn hC (host := "RowLineage") (rl_n2 215 rfl rfl)
theorem mX0_35 {X : rl_X} {E : rl_E} {cc : ByteArray} (hC : rl_C X E cc RX0 rl_BW rl_Ns) : rl_M X RX0 35 yX6_becomeTrue := rl_Mn hC (host := "RowLineage") (rl_n2 219 rfl rfl)
theorem mX6_22 {X : rl_X} {E : rl_E} {cc : ByteArray} (hC : rl_C X E cc RX6 rl_BW rl_Ns) : rl_M X RX6 22 yX6_becomeTerm := rl_Mo hC (rl_b2 223 rfl rfl)
theorem mX0_38 {X : rl_X} {E : rl_E} {cc : ByteArray} (hC : rl_C X E cc RX0 rl_BW rl_Ns) : rl_M X RX0 38 yX0_addTurns := rl_Mo hC (rl_b2 224 rfl rfl)
theorem mX2_77 {X : rl_X} {E : rl_E} {cc : ByteArray} (hC : rl_C X E cc RX2 rl_BW rl_Ns) : rl_M X RX2 77 yX2_fillFold := rl_Mo hC (rl_b2 228 rfl rfl)
theorem mX2_155 {X : rl_X} {E : rl_E} {cc : ByteArray} (hC : rl_C X E cc RX2 rl_BW rl_Ns) : rl_M X RX2 155 yX2_isFirstOfGroup := rl_Mo hC (rl_b2 232 rfl rfl)
theorem mX2_159 {X : rl_X} {E : rl_E} {cc : ByteArray} (hC : rl_C X E cc RX2 rl_BW rl_Ns) : rl_M X RX2 159 yX2_gatherGroup := rl_Mo hC (rl_b2 235 rfl rfl)
theorem mX2_163 {X : rl_X} {E : rl_E} {cc : ByteArray} (hC : rl_C X E cc RX2 rl_BW rl_Ns) : rl_M X RX2 163 yX2_putGroup := rl_Mo hC (rl_b2 239 rfl rfl)
theorem mX2_167 {X : rl_X} {E : rl_E} {cc : ByteArray} (hC : rl_C X E cc RX2 rl_BW rl_Ns) : rl_M X RX2 167 yX2_turnGroup := rl_Mo hC (rl_b3 3 rfl rfl)
theorem mX2_171 {X : rl_X} {E : rl_E} {cc : ByteArray} (hC : rl_C X E cc RX2 rl_BW rl_Ns) : rl_M X RX2 171 yX2_foldedNumber := rl_Mo hC (rl_b3 7 rfl rfl)
theorem mX2_182 {X : rl_X} {E : rl_E} {cc : ByteArray} (hC : rl_C X E cc RX2 rl_BW rl_Ns) : rl_M X RX2 182 yJ9_min_7cf53 := rl_Mo hC (rl_b3 11 rfl rfl)
theorem mX2_188 {X : rl_X} {E : rl_E} {cc : ByteArray} (hC : rl_C X E cc RX2 rl_BW rl_Ns) : rl_M X RX2 188 yJ9_max_7cf53 := rl_Mo hC (rl_b3 12 rfl rfl)
theorem mX2_175 {X : rl_X} {E : rl_E} {cc : ByteArray} (hC : rl_C X E cc RX2 rl_BW rl_Ns) : rl_M X RX2 175 yX2_makeWaysOfSet := rl_Mo hC (rl_b3 13 rfl rfl)
theorem mX2_179 {X : rl_X} {E : rl_E} {cc : ByteArray} (hC : rl_C X E cc RX2 rl_BW rl_Ns) : rl_M X RX2 179 yX6_becomeTrue := rl_Mn hC (host := "RowLineage") (rl_n3 17 rfl rfl)
theorem mL_82 {X : rl_X} {E : rl_E} {cc : ByteArray} (hC : rl_C X E cc RL rl_BW rl_Ns) : rl_M X RL 82 yX7_ways := rl_Mo hC (rl_b3 18 rfl rfl)
theorem mX7_141 {X : rl_X} {E : rl_E} {cc : ByteArray} (hC : rl_C X E cc RX7 rl_BW rl_Ns) : rl_M X RX7 141 yX7_resultTuple := rl_Mo hC (rl_b3 22 rfl rfl)
theorem mL_90 {X : rl_X} {E : rl_E} {cc : ByteArray} (hC : rl_C X E cc RL rl_BW rl_Ns) : rl_M X RL 90 yX7_drop := rl_Mo hC (rl_b3 26 rfl rfl)
theorem mX7_178 {X : rl_X} {E : rl_E} {cc : ByteArray} (hC : rl_C X E cc RX7 rl_BW rl_Ns) : rl_M X RX7 178 yX3_isRow := rl_Mn hC (host := "RowLineage") (rl_n3 30 rfl rfl)
theorem nX7_181 : Cond.constantLong RX7 181 (-1) ∈ rl_BW := (rl_b3 34 rfl rfl)
theorem mL_95 {X : rl_X} {E : rl_E} {cc : ByteArray} (hC : rl_C X E cc RL rl_BW rl_Ns) : rl_M X RL 95 yX7_holds := rl_Mo hC (rl_b3 35 rfl rfl)
theorem mX7_183 {X : rl_X} {E : rl_E} {cc : ByteArray} (hC : rl_C X E cc RX7 rl_BW rl_Ns) : rl_M X RX7 183 yX6_holdsWith := rl_Mn hC (host := "RowLineage") (rl_n3 39 rfl rfl)
theorem mX6_28 {X : rl_X} {E : rl_E} {cc : ByteArray} (hC : rl_C X E cc RX6 rl_BW rl_Ns) : rl_M X RX6 28 yX6_firstThatHolds := rl_Mo hC (rl_b3 43 rfl rfl)
theorem nX6_26 : Cond.constantLong RX6 26 (-1) ∈ rl_BW := (rl_b3 47 rfl rfl)
theorem mX7_187 {X : rl_X} {E : rl_E} {cc : ByteArray} (hC : rl_C X E cc RX7 rl_BW rl_Ns) : rl_M X RX7 187 yX7_asNumber := rl_Mo hC (rl_b3 48 rfl rfl)
theorem mL_99 {X : rl_X} {E : rl_E} {cc : ByteArray} (hC : rl_C X E cc RL rl_BW rl_Ns) : rl_M X RL 99 yX7_made := rl_Mo hC (rl_b3 51 rfl rfl)
theorem mX7_191 {X : rl_X} {E : rl_E} {cc : ByteArray} (hC : rl_C X E cc RX7 rl_BW rl_Ns) : rl_M X RX7 191 yX6_firstThatHolds := rl_Mn hC (host := "RowLineage") (rl_n3 55 rfl rfl)
theorem mL_105 {X : rl_X} {E : rl_E} {cc : ByteArray} (hC : rl_C X E cc RL rl_BW rl_Ns) : rl_M X RL 105 yX7_under := rl_Mo hC (rl_b3 56 rfl rfl)
theorem mL_110 {X : rl_X} {E : rl_E} {cc : ByteArray} (hC : rl_C X E cc RL rl_BW rl_Ns) : rl_M X RL 110 yX7_forward := rl_Mo hC (rl_b3 60 rfl rfl)
theorem mL_114 {X : rl_X} {E : rl_E} {cc : ByteArray} (hC : rl_C X E cc RL rl_BW rl_Ns) : rl_M X RL 114 yX7_count := rl_Mo hC (rl_b3 64 rfl rfl)
theorem mX7_199 {X : rl_X} {E : rl_E} {cc : ByteArray} (hC : rl_C X E cc RX7 rl_BW rl_Ns) : rl_M X RX7 199 yX6_rowsOfTerms := rl_Mn hC (host := "RowLineage") (rl_n3 68 rfl rfl)
theorem mX7_203 {X : rl_X} {E : rl_E} {cc : ByteArray} (hC : rl_C X E cc RX7 rl_BW rl_Ns) : rl_M X RX7 203 yJ13_bitCount_95d88 := rl_Mo hC (rl_b3 72 rfl rfl)
theorem nJ13_314 : Cond.constantLong RJ13 314 (6148914691236517205) ∈ rl_BW := (rl_b3 75 rfl rfl)
theorem nJ13_316 : Cond.constantLong RJ13 316 (3689348814741910323) ∈ rl_BW := (rl_b3 76 rfl rfl)
theorem nJ13_318 : Cond.constantLong RJ13 318 (1085102592571150095) ∈ rl_BW := (rl_b3 77 rfl rfl)
theorem mX7_208 {X : rl_X} {E : rl_E} {cc : ByteArray} (hC : rl_C X E cc RX7 rl_BW rl_Ns) : rl_M X RX7 208 yX7_setsWithNone := rl_Mo hC (rl_b3 78 rfl rfl)
theorem mL_118 {X : rl_X} {E : rl_E} {cc : ByteArray} (hC : rl_C X E cc RL rl_BW rl_Ns) : rl_M X RL 118 yX7_matters := rl_Mo hC (rl_b3 81 rfl rfl)
theorem mX7_212 {X : rl_X} {E : rl_E} {cc : ByteArray} (hC : rl_C X E cc RX7 rl_BW rl_Ns) : rl_M X RX7 212 yX7_isSeen := rl_Mo hC (rl_b3 85 rfl rfl)
theorem mX7_249 {X : rl_X} {E : rl_E} {cc : ByteArray} (hC : rl_C X E cc RX7 rl_BW rl_Ns) : rl_M X RX7 249 yX0_forget := rl_Mn hC (host := "RowLineage") (rl_n3 89 rfl rfl)
theorem mL_122 {X : rl_X} {E : rl_E} {cc : ByteArray} (hC : rl_C X E cc RL rl_BW rl_Ns) : rl_M X RL 122 yX7_blame := rl_Mo hC (rl_b3 93 rfl rfl)
theorem mX7_216 {X : rl_X} {E : rl_E} {cc : ByteArray} (hC : rl_C X E cc RX7 rl_BW rl_Ns) : rl_M X RX7 216 yX6_leastDropsToHold := rl_Mn hC (host := "RowLineage") (rl_n3 97 rfl rfl)
theorem mX6_32 {X : rl_X} {E : rl_E} {cc : ByteArray} (hC : rl_C X E cc RX6 rl_BW rl_Ns) : rl_M X RX6 32 yJ13_bitCount_95d88 := rl_Mo hC (rl_b3 101 rfl rfl)
theorem mX7_219 {X : rl_X} {E : rl_E} {cc : ByteArray} (hC : rl_C X E cc RX7 rl_BW rl_Ns) : rl_M X RX7 219 yX7_leastDropsToBreak := rl_Mo hC (rl_b3 102 rfl rfl)
theorem mX7_255 {X : rl_X} {E : rl_E} {cc : ByteArray} (hC : rl_C X E cc RX7 rl_BW rl_Ns) : rl_M X RX7 255 yX7_canBreak := rl_Mo hC (rl_b3 106 rfl rfl)
theorem mL_126 {X : rl_X} {E : rl_E} {cc : ByteArray} (hC : rl_C X E cc RL rl_BW rl_Ns) : rl_M X RL 126 yX7_told := rl_Mo hC (rl_b3 109 rfl rfl)
theorem mX7_223 {X : rl_X} {E : rl_E} {cc : ByteArray} (hC : rl_C X E cc RX7 rl_BW rl_Ns) : rl_M X RX7 223 yX4_howManyHold := rl_Mn hC (host := "RowLineage") (rl_n3 113 rfl rfl)
theorem mX4_45 {X : rl_X} {E : rl_E} {cc : ByteArray} (hC : rl_C X E cc RX4 rl_BW rl_Ns) : rl_M X RX4 45 yX6_holdsWith := rl_Mn hC (host := "RowLineage") (rl_n3 117 rfl rfl)
theorem mL_130 {X : rl_X} {E : rl_E} {cc : ByteArray} (hC : rl_C X E cc RL rl_BW rl_Ns) : rl_M X RL 130 yX7_clear := rl_Mo hC (rl_b3 118 rfl rfl)
theorem mX7_226 {X : rl_X} {E : rl_E} {cc : ByteArray} (hC : rl_C X E cc RX7 rl_BW rl_Ns) : rl_M X RX7 226 yX3_forgetAll := rl_Mn hC (host := "RowLineage") (rl_n3 122 rfl rfl)
theorem mL_72 {X : rl_X} {E : rl_E} {cc : ByteArray} (hC : rl_C X E cc RL rl_BW rl_Ns) : rl_M X RL 72 yL_cell := rl_Mo hC (rl_b3 126 rfl rfl)
theorem kL_13 : Cond.classLink RL 13 "java/lang/IndexOutOfBoundsException" ∈ rl_BW := (rl_b3 129 rfl rfl)
theorem mL_7 {X : rl_X} {E : rl_E} {cc : ByteArray} (hC : rl_C X E cc RL rl_BW rl_Ns) : rl_M X RL 7 yX7_cell := rl_Mo hC (rl_b3 130 rfl rfl)
theorem kX7_145 : Cond.classLink RX7 145 "java/lang/IndexOutOfBoundsException" ∈ rl_BW := (rl_b3 134 rfl rfl)
theorem aw_byte : Cond.arrayClass .byte ∈ rl_BW := (rl_b3 200 rfl rfl)
theorem mL_86 {X : rl_X} {E : rl_E} {cc : ByteArray} (hC : rl_C X E cc RL rl_BW rl_Ns) : rl_M X RL 86 yL_way := rl_Mo hC (rl_b3 202 rfl rfl)
theorem kL_19 : Cond.classLink RL 19 "java/lang/IllegalArgumentException" ∈ rl_BW := (rl_b3 205 rfl rfl)
theorem mL_15 {X : rl_X} {E : rl_E} {cc : ByteArray} (hC : rl_C X E cc RL rl_BW rl_Ns) : rl_M X RL 15 yX7_way := rl_Mo hC (rl_b3 206 rfl rfl)
theorem kX7_166 : Cond.classLink RX7 166 "java/lang/IllegalArgumentException" ∈ rl_BW := (rl_b3 211 rfl rfl)
theorem kL_22 : Cond.classLink RL 22 "RowLineageModel" ∈ rl_BW := (rl_b3 227 rfl rfl)
theorem iX8 : Cond.instantiable RX8 31 ∈ rl_BW := (rl_b3 228 rfl rfl)
theorem mL_24 {X : rl_X} {E : rl_E} {cc : ByteArray} (hC : rl_C X E cc RL rl_BW rl_Ns) : rl_M X RL 24 yX8_init := rl_Mo hC (rl_b3 229 rfl rfl)
theorem mX8_1 : Cond.methodLink RX8 1 objectInit ∈ rl_BW := (rl_b3 232 rfl rfl)
theorem fX8_78 {X : rl_X} {E : rl_E} {cc : ByteArray} (hC : rl_C X E cc RX8 rl_BW rl_Ns) (hE : E.2.1 = vwCl) : rl_F X E RX8 rl_BW 78 8 0 := rl_Fo hC (C := RX8) (T := TX8) (N := 31) (by rw [hE]; rfl) (by decide) rfl uX8 (rl_b3 233 rfl rfl)
theorem fX8_109 {X : rl_X} {E : rl_E} {cc : ByteArray} (hC : rl_C X E cc RX8 rl_BW rl_Ns) (hE : E.2.1 = vwCl) : rl_F X E RX8 rl_BW 109 8 1 := rl_Fo hC (C := RX8) (T := TX8) (N := 31) (by rw [hE]; rfl) (by decide) rfl uX8 (rl_b3 234 rfl rfl)
theorem fX8_7 {X : rl_X} {E : rl_E} {cc : ByteArray} (hC : rl_C X E cc RX8 rl_BW rl_Ns) (hE : E.2.1 = vwCl) : rl_F X E RX8 rl_BW 7 8 2 := rl_Fo hC (C := RX8) (T := TX8) (N := 31) (by rw [hE]; rfl) (by decide) rfl uX8 (rl_b3 235 rfl rfl)
theorem fX8_112 {X : rl_X} {E : rl_E} {cc : ByteArray} (hC : rl_C X E cc RX8 rl_BW rl_Ns) (hE : E.2.1 = vwCl) : rl_F X E RX8 rl_BW 112 8 3 := rl_Fo hC (C := RX8) (T := TX8) (N := 31) (by rw [hE]; rfl) (by decide) rfl uX8 (rl_b3 236 rfl rfl)
theorem fX8_13 {X : rl_X} {E : rl_E} {cc : ByteArray} (hC : rl_C X E cc RX8 rl_BW rl_Ns) (hE : E.2.1 = vwCl) : rl_F X E RX8 rl_BW 13 8 4 := rl_Fo hC (C := RX8) (T := TX8) (N := 31) (by rw [hE]; rfl) (by decide) rfl uX8 (rl_b3 237 rfl rfl)
theorem fX8_16 {X : rl_X} {E : rl_E} {cc : ByteArray} (hC : rl_C X E cc RX8 rl_BW rl_Ns) (hE : E.2.1 = vwCl) : rl_F X E RX8 rl_BW 16 8 5 := rl_Fo hC (C := RX8) (T := TX8) (N := 31) (by rw [hE]; rfl) (by decide) rfl uX8 (rl_b3 238 rfl rfl)
theorem fX8_115 {X : rl_X} {E : rl_E} {cc : ByteArray} (hC : rl_C X E cc RX8 rl_BW rl_Ns) (hE : E.2.1 = vwCl) : rl_F X E RX8 rl_BW 115 8 6 := rl_Fo hC (C := RX8) (T := TX8) (N := 31) (by rw [hE]; rfl) (by decide) rfl uX8 (rl_b3 239 rfl rfl)
theorem fX8_119 {X : rl_X} {E : rl_E} {cc : ByteArray} (hC : rl_C X E cc RX8 rl_BW rl_Ns) (hE : E.2.1 = vwCl) : rl_F X E RX8 rl_BW 119 8 7 := rl_Fo hC (C := RX8) (T := TX8) (N := 31) (by rw [hE]; rfl) (by decide) rfl uX8 (rl_b4 0 rfl rfl)
theorem fX8_19 {X : rl_X} {E : rl_E} {cc : ByteArray} (hC : rl_C X E cc RX8 rl_BW rl_Ns) (hE : E.2.1 = vwCl) : rl_F X E RX8 rl_BW 19 8 8 := rl_Fo hC (C := RX8) (T := TX8) (N := 31) (by rw [hE]; rfl) (by decide) rfl uX8 (rl_b4 1 rfl rfl)
theorem fX8_22 {X : rl_X} {E : rl_E} {cc : ByteArray} (hC : rl_C X E cc RX8 rl_BW rl_Ns) (hE : E.2.1 = vwCl) : rl_F X E RX8 rl_BW 22 8 9 := rl_Fo hC (C := RX8) (T := TX8) (N := 31) (by rw [hE]; rfl) (by decide) rfl uX8 (rl_b4 2 rfl rfl)
theorem fX8_25 {X : rl_X} {E : rl_E} {cc : ByteArray} (hC : rl_C X E cc RX8 rl_BW rl_Ns) (hE : E.2.1 = vwCl) : rl_F X E RX8 rl_BW 25 8 10 := rl_Fo hC (C := RX8) (T := TX8) (N := 31) (by rw [hE]; rfl) (by decide) rfl uX8 (rl_b4 3 rfl rfl)
theorem fX8_28 {X : rl_X} {E : rl_E} {cc : ByteArray} (hC : rl_C X E cc RX8 rl_BW rl_Ns) (hE : E.2.1 = vwCl) : rl_F X E RX8 rl_BW 28 8 11 := rl_Fo hC (C := RX8) (T := TX8) (N := 31) (by rw [hE]; rfl) (by decide) rfl uX8 (rl_b4 4 rfl rfl)
theorem fX8_31 {X : rl_X} {E : rl_E} {cc : ByteArray} (hC : rl_C X E cc RX8 rl_BW rl_Ns) (hE : E.2.1 = vwCl) : rl_F X E RX8 rl_BW 31 8 12 := rl_Fo hC (C := RX8) (T := TX8) (N := 31) (by rw [hE]; rfl) (by decide) rfl uX8 (rl_b4 5 rfl rfl)
theorem fX8_34 {X : rl_X} {E : rl_E} {cc : ByteArray} (hC : rl_C X E cc RX8 rl_BW rl_Ns) (hE : E.2.1 = vwCl) : rl_F X E RX8 rl_BW 34 8 13 := rl_Fo hC (C := RX8) (T := TX8) (N := 31) (by rw [hE]; rfl) (by decide) rfl uX8 (rl_b4 6 rfl rfl)
theorem fX8_37 {X : rl_X} {E : rl_E} {cc : ByteArray} (hC : rl_C X E cc RX8 rl_BW rl_Ns) (hE : E.2.1 = vwCl) : rl_F X E RX8 rl_BW 37 8 14 := rl_Fo hC (C := RX8) (T := TX8) (N := 31) (by rw [hE]; rfl) (by decide) rfl uX8 (rl_b4 7 rfl rfl)
theorem fX8_40 {X : rl_X} {E : rl_E} {cc : ByteArray} (hC : rl_C X E cc RX8 rl_BW rl_Ns) (hE : E.2.1 = vwCl) : rl_F X E RX8 rl_BW 40 8 15 := rl_Fo hC (C := RX8) (T := TX8) (N := 31) (by rw [hE]; rfl) (by decide) rfl uX8 (rl_b4 8 rfl rfl)
theorem fX8_43 {X : rl_X} {E : rl_E} {cc : ByteArray} (hC : rl_C X E cc RX8 rl_BW rl_Ns) (hE : E.2.1 = vwCl) : rl_F X E RX8 rl_BW 43 8 16 := rl_Fo hC (C := RX8) (T := TX8) (N := 31) (by rw [hE]; rfl) (by decide) rfl uX8 (rl_b4 9 rfl rfl)
theorem fX8_46 {X : rl_X} {E : rl_E} {cc : ByteArray} (hC : rl_C X E cc RX8 rl_BW rl_Ns) (hE : E.2.1 = vwCl) : rl_F X E RX8 rl_BW 46 8 17 := rl_Fo hC (C := RX8) (T := TX8) (N := 31) (by rw [hE]; rfl) (by decide) rfl uX8 (rl_b4 10 rfl rfl)
theorem fX8_49 {X : rl_X} {E : rl_E} {cc : ByteArray} (hC : rl_C X E cc RX8 rl_BW rl_Ns) (hE : E.2.1 = vwCl) : rl_F X E RX8 rl_BW 49 8 18 := rl_Fo hC (C := RX8) (T := TX8) (N := 31) (by rw [hE]; rfl) (by decide) rfl uX8 (rl_b4 11 rfl rfl)
theorem fX8_196 {X : rl_X} {E : rl_E} {cc : ByteArray} (hC : rl_C X E cc RX8 rl_BW rl_Ns) (hE : E.2.1 = vwCl) : rl_F X E RX8 rl_BW 196 8 19 := rl_Fo hC (C := RX8) (T := TX8) (N := 31) (by rw [hE]; rfl) (by decide) rfl uX8 (rl_b4 12 rfl rfl)
theorem fX8_53 {X : rl_X} {E : rl_E} {cc : ByteArray} (hC : rl_C X E cc RX8 rl_BW rl_Ns) (hE : E.2.1 = vwCl) : rl_F X E RX8 rl_BW 53 8 20 := rl_Fo hC (C := RX8) (T := TX8) (N := 31) (by rw [hE]; rfl) (by decide) rfl uX8 (rl_b4 13 rfl rfl)
theorem fX8_56 {X : rl_X} {E : rl_E} {cc : ByteArray} (hC : rl_C X E cc RX8 rl_BW rl_Ns) (hE : E.2.1 = vwCl) : rl_F X E RX8 rl_BW 56 8 21 := rl_Fo hC (C := RX8) (T := TX8) (N := 31) (by rw [hE]; rfl) (by decide) rfl uX8 (rl_b4 14 rfl rfl)
theorem fX8_60 {X : rl_X} {E : rl_E} {cc : ByteArray} (hC : rl_C X E cc RX8 rl_BW rl_Ns) (hE : E.2.1 = vwCl) : rl_F X E RX8 rl_BW 60 8 22 := rl_Fo hC (C := RX8) (T := TX8) (N := 31) (by rw [hE]; rfl) (by decide) rfl uX8 (rl_b4 15 rfl rfl)
theorem fX8_91 {X : rl_X} {E : rl_E} {cc : ByteArray} (hC : rl_C X E cc RX8 rl_BW rl_Ns) (hE : E.2.1 = vwCl) : rl_F X E RX8 rl_BW 91 8 23 := rl_Fo hC (C := RX8) (T := TX8) (N := 31) (by rw [hE]; rfl) (by decide) rfl uX8 (rl_b4 16 rfl rfl)
theorem fX8_63 {X : rl_X} {E : rl_E} {cc : ByteArray} (hC : rl_C X E cc RX8 rl_BW rl_Ns) (hE : E.2.1 = vwCl) : rl_F X E RX8 rl_BW 63 8 24 := rl_Fo hC (C := RX8) (T := TX8) (N := 31) (by rw [hE]; rfl) (by decide) rfl uX8 (rl_b4 17 rfl rfl)
theorem fX8_66 {X : rl_X} {E : rl_E} {cc : ByteArray} (hC : rl_C X E cc RX8 rl_BW rl_Ns) (hE : E.2.1 = vwCl) : rl_F X E RX8 rl_BW 66 8 25 := rl_Fo hC (C := RX8) (T := TX8) (N := 31) (by rw [hE]; rfl) (by decide) rfl uX8 (rl_b4 18 rfl rfl)
theorem fX8_82 {X : rl_X} {E : rl_E} {cc : ByteArray} (hC : rl_C X E cc RX8 rl_BW rl_Ns) (hE : E.2.1 = vwCl) : rl_F X E RX8 rl_BW 82 8 26 := rl_Fo hC (C := RX8) (T := TX8) (N := 31) (by rw [hE]; rfl) (by decide) rfl uX8 (rl_b4 19 rfl rfl)
theorem fX8_69 {X : rl_X} {E : rl_E} {cc : ByteArray} (hC : rl_C X E cc RX8 rl_BW rl_Ns) (hE : E.2.1 = vwCl) : rl_F X E RX8 rl_BW 69 8 27 := rl_Fo hC (C := RX8) (T := TX8) (N := 31) (by rw [hE]; rfl) (by decide) rfl uX8 (rl_b4 20 rfl rfl)
theorem fX8_72 {X : rl_X} {E : rl_E} {cc : ByteArray} (hC : rl_C X E cc RX8 rl_BW rl_Ns) (hE : E.2.1 = vwCl) : rl_F X E RX8 rl_BW 72 8 28 := rl_Fo hC (C := RX8) (T := TX8) (N := 31) (by rw [hE]; rfl) (by decide) rfl uX8 (rl_b4 21 rfl rfl)
theorem fX8_75 {X : rl_X} {E : rl_E} {cc : ByteArray} (hC : rl_C X E cc RX8 rl_BW rl_Ns) (hE : E.2.1 = vwCl) : rl_F X E RX8 rl_BW 75 8 29 := rl_Fo hC (C := RX8) (T := TX8) (N := 31) (by rw [hE]; rfl) (by decide) rfl uX8 (rl_b4 22 rfl rfl)
theorem fX8_210 {X : rl_X} {E : rl_E} {cc : ByteArray} (hC : rl_C X E cc RX8 rl_BW rl_Ns) (hE : E.2.1 = vwCl) : rl_F X E RX8 rl_BW 210 8 30 := rl_Fo hC (C := RX8) (T := TX8) (N := 31) (by rw [hE]; rfl) (by decide) rfl uX8 (rl_b4 23 rfl rfl)
theorem aw_boolean : Cond.arrayClass .boolean ∈ rl_BW := (rl_b4 87 rfl rfl)
theorem mL_78 {X : rl_X} {E : rl_E} {cc : ByteArray} (hC : rl_C X E cc RL rl_BW rl_Ns) : rl_M X RL 78 yX8_thrown := rl_Mo hC (rl_b4 88 rfl rfl)
theorem mL_29 {X : rl_X} {E : rl_E} {cc : ByteArray} (hC : rl_C X E cc RL rl_BW rl_Ns) : rl_M X RL 29 yX8_source := rl_Mo hC (rl_b4 92 rfl rfl)
theorem mL_34 {X : rl_X} {E : rl_E} {cc : ByteArray} (hC : rl_C X E cc RL rl_BW rl_Ns) : rl_M X RL 34 yX8_row := rl_Mo hC (rl_b4 96 rfl rfl)
theorem mL_38 {X : rl_X} {E : rl_E} {cc : ByteArray} (hC : rl_C X E cc RL rl_BW rl_Ns) : rl_M X RL 38 yX8_scan := rl_Mo hC (rl_b4 100 rfl rfl)
theorem mX8_122 {X : rl_X} {E : rl_E} {cc : ByteArray} (hC : rl_C X E cc RX8 rl_BW rl_Ns) : rl_M X RX8 122 yX8_node := rl_Mo hC (rl_b4 104 rfl rfl)
theorem mL_42 {X : rl_X} {E : rl_E} {cc : ByteArray} (hC : rl_C X E cc RL rl_BW rl_Ns) : rl_M X RL 42 yX8_pick := rl_Mo hC (rl_b4 108 rfl rfl)
theorem mX8_126 {X : rl_X} {E : rl_E} {cc : ByteArray} (hC : rl_C X E cc RX8 rl_BW rl_Ns) : rl_M X RX8 126 yX8_isNode := rl_Mo hC (rl_b4 112 rfl rfl)
theorem mX8_129 {X : rl_X} {E : rl_E} {cc : ByteArray} (hC : rl_C X E cc RX8 rl_BW rl_Ns) : rl_M X RX8 129 yX8_isColumn := rl_Mo hC (rl_b4 116 rfl rfl)
theorem mL_46 {X : rl_X} {E : rl_E} {cc : ByteArray} (hC : rl_C X E cc RL rl_BW rl_Ns) : rl_M X RL 46 yX8_cols := rl_Mo hC (rl_b4 120 rfl rfl)
theorem nX8_133 : Cond.constant RX8 133 (999999) ∈ rl_BW := (rl_b4 124 rfl rfl)
theorem mL_51 {X : rl_X} {E : rl_E} {cc : ByteArray} (hC : rl_C X E cc RL rl_BW rl_Ns) : rl_M X RL 51 yX8_join := rl_Mo hC (rl_b4 125 rfl rfl)
theorem mL_55 {X : rl_X} {E : rl_E} {cc : ByteArray} (hC : rl_C X E cc RL rl_BW rl_Ns) : rl_M X RL 55 yX8_unite := rl_Mo hC (rl_b4 129 rfl rfl)
theorem mX8_134 {X : rl_X} {E : rl_E} {cc : ByteArray} (hC : rl_C X E cc RX8 rl_BW rl_Ns) : rl_M X RX8 134 yX8_pair := rl_Mo hC (rl_b4 133 rfl rfl)
theorem mL_59 {X : rl_X} {E : rl_E} {cc : ByteArray} (hC : rl_C X E cc RL rl_BW rl_Ns) : rl_M X RL 59 yX8_minus := rl_Mo hC (rl_b4 137 rfl rfl)
theorem mL_63 {X : rl_X} {E : rl_E} {cc : ByteArray} (hC : rl_C X E cc RL rl_BW rl_Ns) : rl_M X RL 63 yX8_fold := rl_Mo hC (rl_b4 141 rfl rfl)
theorem mL_67 {X : rl_X} {E : rl_E} {cc : ByteArray} (hC : rl_C X E cc RL rl_BW rl_Ns) : rl_M X RL 67 yX8_columns := rl_Mo hC (rl_b4 145 rfl rfl)
theorem mL_71 {X : rl_X} {E : rl_E} {cc : ByteArray} (hC : rl_C X E cc RL rl_BW rl_Ns) : rl_M X RL 71 yX8_run := rl_Mo hC (rl_b4 149 rfl rfl)
theorem mX8_193 {X : rl_X} {E : rl_E} {cc : ByteArray} (hC : rl_C X E cc RX8 rl_BW rl_Ns) : rl_M X RX8 193 yX8_make := rl_Mo hC (rl_b4 153 rfl rfl)
theorem mX8_157 {X : rl_X} {E : rl_E} {cc : ByteArray} (hC : rl_C X E cc RX8 rl_BW rl_Ns) : rl_M X RX8 157 yX8_makeScan := rl_Mo hC (rl_b4 157 rfl rfl)
theorem mX8_103 {X : rl_X} {E : rl_E} {cc : ByteArray} (hC : rl_C X E cc RX8 rl_BW rl_Ns) : rl_M X RX8 103 yX8_truth := rl_Mo hC (rl_b4 161 rfl rfl)
theorem mX8_178 {X : rl_X} {E : rl_E} {cc : ByteArray} (hC : rl_C X E cc RX8 rl_BW rl_Ns) : rl_M X RX8 178 yX8_comes := rl_Mo hC (rl_b4 165 rfl rfl)
theorem mX8_145 {X : rl_X} {E : rl_E} {cc : ByteArray} (hC : rl_C X E cc RX8 rl_BW rl_Ns) : rl_M X RX8 145 yX8_find := rl_Mo hC (rl_b4 169 rfl rfl)
theorem mX8_141 {X : rl_X} {E : rl_E} {cc : ByteArray} (hC : rl_C X E cc RX8 rl_BW rl_Ns) : rl_M X RX8 141 yX8_against := rl_Mo hC (rl_b4 173 rfl rfl)
theorem mX8_138 {X : rl_X} {E : rl_E} {cc : ByteArray} (hC : rl_C X E cc RX8 rl_BW rl_Ns) : rl_M X RX8 138 yX8_cellAt := rl_Mo hC (rl_b4 177 rfl rfl)
theorem mX8_149 {X : rl_X} {E : rl_E} {cc : ByteArray} (hC : rl_C X E cc RX8 rl_BW rl_Ns) : rl_M X RX8 149 yX8_either := rl_Mo hC (rl_b4 181 rfl rfl)
theorem mX8_95 {X : rl_X} {E : rl_E} {cc : ByteArray} (hC : rl_C X E cc RX8 rl_BW rl_Ns) : rl_M X RX8 95 yX8_heapTerm := rl_Mo hC (rl_b4 185 rfl rfl)
theorem mX8_99 {X : rl_X} {E : rl_E} {cc : ByteArray} (hC : rl_C X E cc RX8 rl_BW rl_Ns) : rl_M X RX8 99 yX8_settle := rl_Mo hC (rl_b4 189 rfl rfl)
theorem mX8_87 {X : rl_X} {E : rl_E} {cc : ByteArray} (hC : rl_C X E cc RX8 rl_BW rl_Ns) : rl_M X RX8 87 yX8_goes := rl_Mo hC (rl_b4 193 rfl rfl)
theorem nX8_85 : Cond.constantLong RX8 85 (-1) ∈ rl_BW := (rl_b4 197 rfl rfl)
theorem mX8_153 {X : rl_X} {E : rl_E} {cc : ByteArray} (hC : rl_C X E cc RX8 rl_BW rl_Ns) : rl_M X RX8 153 yX8_copy := rl_Mo hC (rl_b4 198 rfl rfl)
theorem mX8_160 {X : rl_X} {E : rl_E} {cc : ByteArray} (hC : rl_C X E cc RX8 rl_BW rl_Ns) : rl_M X RX8 160 yX8_makePick := rl_Mo hC (rl_b4 202 rfl rfl)
theorem mX8_181 {X : rl_X} {E : rl_E} {cc : ByteArray} (hC : rl_C X E cc RX8 rl_BW rl_Ns) : rl_M X RX8 181 yX8_take := rl_Mo hC (rl_b4 206 rfl rfl)
theorem mX8_163 {X : rl_X} {E : rl_E} {cc : ByteArray} (hC : rl_C X E cc RX8 rl_BW rl_Ns) : rl_M X RX8 163 yX8_makeCols := rl_Mo hC (rl_b4 210 rfl rfl)
theorem mX8_166 {X : rl_X} {E : rl_E} {cc : ByteArray} (hC : rl_C X E cc RX8 rl_BW rl_Ns) : rl_M X RX8 166 yX8_makeJoin := rl_Mo hC (rl_b4 214 rfl rfl)
theorem mX8_184 {X : rl_X} {E : rl_E} {cc : ByteArray} (hC : rl_C X E cc RX8 rl_BW rl_Ns) : rl_M X RX8 184 yX8_both := rl_Mo hC (rl_b4 218 rfl rfl)
theorem mX8_169 {X : rl_X} {E : rl_E} {cc : ByteArray} (hC : rl_C X E cc RX8 rl_BW rl_Ns) : rl_M X RX8 169 yX8_makeUnite := rl_Mo hC (rl_b4 222 rfl rfl)
theorem mX8_172 {X : rl_X} {E : rl_E} {cc : ByteArray} (hC : rl_C X E cc RX8 rl_BW rl_Ns) : rl_M X RX8 172 yX8_makeMinus := rl_Mo hC (rl_b4 226 rfl rfl)
theorem mX8_187 {X : rl_X} {E : rl_E} {cc : ByteArray} (hC : rl_C X E cc RX8 rl_BW rl_Ns) : rl_M X RX8 187 yX8_not := rl_Mo hC (rl_b4 230 rfl rfl)
theorem mX8_106 {X : rl_X} {E : rl_E} {cc : ByteArray} (hC : rl_C X E cc RX8 rl_BW rl_Ns) : rl_M X RX8 106 yX8_turn := rl_Mo hC (rl_b4 234 rfl rfl)
theorem mX8_175 {X : rl_X} {E : rl_E} {cc : ByteArray} (hC : rl_C X E cc RX8 rl_BW rl_Ns) : rl_M X RX8 175 yX8_makeFold := rl_Mo hC (rl_b4 238 rfl rfl)
theorem mX8_190 {X : rl_X} {E : rl_E} {cc : ByteArray} (hC : rl_C X E cc RX8 rl_BW rl_Ns) : rl_M X RX8 190 yX8_makeGroup := rl_Mo hC (rl_b5 2 rfl rfl)
theorem mL_77 {X : rl_X} {E : rl_E} {cc : ByteArray} (hC : rl_C X E cc RL rl_BW rl_Ns) : rl_M X RL 77 yX8_cell := rl_Mo hC (rl_b5 6 rfl rfl)
theorem mX8_199 {X : rl_X} {E : rl_E} {cc : ByteArray} (hC : rl_C X E cc RX8 rl_BW rl_Ns) : rl_M X RX8 199 yX8_isTuple := rl_Mo hC (rl_b5 10 rfl rfl)
theorem mL_85 {X : rl_X} {E : rl_E} {cc : ByteArray} (hC : rl_C X E cc RL rl_BW rl_Ns) : rl_M X RL 85 yX8_ways := rl_Mo hC (rl_b5 14 rfl rfl)
theorem mL_89 {X : rl_X} {E : rl_E} {cc : ByteArray} (hC : rl_C X E cc RL rl_BW rl_Ns) : rl_M X RL 89 yX8_way := rl_Mo hC (rl_b5 18 rfl rfl)
theorem mL_94 {X : rl_X} {E : rl_E} {cc : ByteArray} (hC : rl_C X E cc RL rl_BW rl_Ns) : rl_M X RL 94 yX8_drop := rl_Mo hC (rl_b5 22 rfl rfl)
theorem mL_98 {X : rl_X} {E : rl_E} {cc : ByteArray} (hC : rl_C X E cc RL rl_BW rl_Ns) : rl_M X RL 98 yX8_holds := rl_Mo hC (rl_b5 26 rfl rfl)
theorem mX8_206 {X : rl_X} {E : rl_E} {cc : ByteArray} (hC : rl_C X E cc RX8 rl_BW rl_Ns) : rl_M X RX8 206 yX8_isSo := rl_Mo hC (rl_b5 30 rfl rfl)
theorem mX8_202 {X : rl_X} {E : rl_E} {cc : ByteArray} (hC : rl_C X E cc RX8 rl_BW rl_Ns) : rl_M X RX8 202 yX8_first := rl_Mo hC (rl_b5 34 rfl rfl)
theorem mL_102 {X : rl_X} {E : rl_E} {cc : ByteArray} (hC : rl_C X E cc RL rl_BW rl_Ns) : rl_M X RL 102 yX8_made := rl_Mo hC (rl_b5 38 rfl rfl)
theorem mL_109 {X : rl_X} {E : rl_E} {cc : ByteArray} (hC : rl_C X E cc RL rl_BW rl_Ns) : rl_M X RL 109 yX8_under := rl_Mo hC (rl_b5 42 rfl rfl)
theorem mL_113 {X : rl_X} {E : rl_E} {cc : ByteArray} (hC : rl_C X E cc RL rl_BW rl_Ns) : rl_M X RL 113 yX8_forward := rl_Mo hC (rl_b5 46 rfl rfl)
theorem mL_117 {X : rl_X} {E : rl_E} {cc : ByteArray} (hC : rl_C X E cc RL rl_BW rl_Ns) : rl_M X RL 117 yX8_count := rl_Mo hC (rl_b5 50 rfl rfl)
theorem mX8_213 {X : rl_X} {E : rl_E} {cc : ByteArray} (hC : rl_C X E cc RX8 rl_BW rl_Ns) : rl_M X RX8 213 yX8_stand := rl_Mo hC (rl_b5 54 rfl rfl)
theorem mX8_216 {X : rl_X} {E : rl_E} {cc : ByteArray} (hC : rl_C X E cc RX8 rl_BW rl_Ns) : rl_M X RX8 216 yX8_rowsOf := rl_Mo hC (rl_b5 58 rfl rfl)
theorem mL_121 {X : rl_X} {E : rl_E} {cc : ByteArray} (hC : rl_C X E cc RL rl_BW rl_Ns) : rl_M X RL 121 yX8_matters := rl_Mo hC (rl_b5 62 rfl rfl)
theorem mL_125 {X : rl_X} {E : rl_E} {cc : ByteArray} (hC : rl_C X E cc RL rl_BW rl_Ns) : rl_M X RL 125 yX8_blame := rl_Mo hC (rl_b5 66 rfl rfl)
theorem mX8_220 {X : rl_X} {E : rl_E} {cc : ByteArray} (hC : rl_C X E cc RX8 rl_BW rl_Ns) : rl_M X RX8 220 yX8_ones := rl_Mo hC (rl_b5 70 rfl rfl)
theorem mL_129 {X : rl_X} {E : rl_E} {cc : ByteArray} (hC : rl_C X E cc RL rl_BW rl_Ns) : rl_M X RL 129 yX8_told := rl_Mo hC (rl_b5 73 rfl rfl)
theorem mL_133 {X : rl_X} {E : rl_E} {cc : ByteArray} (hC : rl_C X E cc RL rl_BW rl_Ns) : rl_M X RL 133 yX8_clear := rl_Mo hC (rl_b5 77 rfl rfl)
theorem nL_103 : Cond.constantLong RL 103 (4294967295) ∈ rl_BW := (rl_b5 81 rfl rfl)
theorem aoArrI : Cond.arrayOver (.array .int) ∈ rl_Ns := (rl_n1 33 rfl rfl)
theorem w_objI : Cond.instanceMethod objectInit ∈ rl_BW := (rl_b1 24 rfl rfl)
theorem w_objC : Cond.code objectInit ⟨#[0xb1]⟩ 1 none ∈ rl_BW := (rl_b1 25 rfl rfl)
theorem YX0_init : rl_Y rl_BW yX0_init cX0_init 1 none 0 := ⟨(rl_b1 67 rfl rfl), (rl_b1 4 rfl rfl), by decide +kernel⟩
theorem IX0_init : Cond.instanceMethod yX0_init ∈ rl_BW := (rl_b1 66 rfl rfl)
theorem YX0_either : rl_Y rl_BW yX0_either cX0_either 5 (some .boolean) 3 := ⟨(rl_b2 160 rfl rfl), (rl_b1 4 rfl rfl), by decide +kernel⟩
theorem IX0_either : Cond.instanceMethod yX0_either ∈ rl_BW := (rl_b2 159 rfl rfl)
theorem VX0_either : Cond.selects yX0_either.cls yX0_either yX0_either ∈ rl_BW := rl_v 23 rfl rfl
theorem YX0_both : rl_Y rl_BW yX0_both cX0_both 6 (some .boolean) 3 := ⟨(rl_b2 198 rfl rfl), (rl_b1 4 rfl rfl), by decide +kernel⟩
theorem IX0_both : Cond.instanceMethod yX0_both ∈ rl_BW := (rl_b2 197 rfl rfl)
theorem VX0_both : Cond.selects yX0_both.cls yX0_both yX0_both ∈ rl_BW := rl_v 31 rfl rfl
theorem YX0_not : rl_Y rl_BW yX0_not cX0_not 5 (some .boolean) 2 := ⟨(rl_b2 218 rfl rfl), (rl_b1 4 rfl rfl), by decide +kernel⟩
theorem IX0_not : Cond.instanceMethod yX0_not ∈ rl_BW := (rl_b2 217 rfl rfl)
theorem VX0_not : Cond.selects yX0_not.cls yX0_not yX0_not ∈ rl_BW := rl_v 36 rfl rfl
theorem YX0_forget : rl_Y rl_BW yX0_forget cX0_forget 6 none 3 := ⟨(rl_b3 92 rfl rfl), (rl_b1 4 rfl rfl), by decide +kernel⟩
theorem IX0_forget : Cond.instanceMethod yX0_forget ∈ rl_BW := (rl_b3 91 rfl rfl)
theorem VX0_forget : Cond.selects yX0_forget.cls yX0_forget yX0_forget ∈ rl_BW := rl_v 51 rfl rfl
theorem YX0_addTurns : rl_Y rl_BW yX0_addTurns cX0_addTurns 12 none 4 := ⟨(rl_b2 227 rfl rfl), (rl_b1 4 rfl rfl), by decide +kernel⟩
theorem IX0_addTurns : Cond.instanceMethod yX0_addTurns ∈ rl_BW := (rl_b2 226 rfl rfl)
theorem VX0_addTurns : Cond.selects yX0_addTurns.cls yX0_addTurns yX0_addTurns ∈ rl_BW := rl_v 38 rfl rfl
theorem YX0_add : rl_Y rl_BW yX0_add cX0_add 7 none 2 := ⟨(rl_b2 164 rfl rfl), (rl_b1 4 rfl rfl), by decide +kernel⟩
theorem IX0_add : Cond.instanceMethod yX0_add ∈ rl_BW := (rl_b2 163 rfl rfl)
theorem VX0_add : Cond.selects yX0_add.cls yX0_add yX0_add ∈ rl_BW := rl_v 24 rfl rfl
theorem YX0_settle : rl_Y rl_BW yX0_settle cX0_settle 3 (some .boolean) 1 := ⟨(rl_b2 169 rfl rfl), (rl_b1 4 rfl rfl), by decide +kernel⟩
theorem IX0_settle : Cond.instanceMethod yX0_settle ∈ rl_BW := (rl_b2 168 rfl rfl)
theorem VX0_settle : Cond.selects yX0_settle.cls yX0_settle yX0_settle ∈ rl_BW := rl_v 25 rfl rfl
theorem YX1_init : rl_Y rl_BW yX1_init cX1_init 1 none 0 := ⟨(rl_b1 234 rfl rfl), (rl_b1 9 rfl rfl), by decide +kernel⟩
theorem IX1_init : Cond.instanceMethod yX1_init ∈ rl_BW := (rl_b1 233 rfl rfl)
theorem YX1_describe : rl_Y rl_BW yX1_describe cX1_describe 5 none 4 := ⟨(rl_b2 37 rfl rfl), (rl_b1 9 rfl rfl), by decide +kernel⟩
theorem IX1_describe : Cond.instanceMethod yX1_describe ∈ rl_BW := (rl_b2 36 rfl rfl)
theorem VX1_describe : Cond.selects yX1_describe.cls yX1_describe yX1_describe ∈ rl_BW := rl_v 5 rfl rfl
theorem YX1_detail : rl_Y rl_BW yX1_detail cX1_detail 5 none 4 := ⟨(rl_b2 41 rfl rfl), (rl_b1 9 rfl rfl), by decide +kernel⟩
theorem IX1_detail : Cond.instanceMethod yX1_detail ∈ rl_BW := (rl_b2 40 rfl rfl)
theorem VX1_detail : Cond.selects yX1_detail.cls yX1_detail yX1_detail ∈ rl_BW := rl_v 6 rfl rfl
theorem YX2_init : rl_Y rl_BW yX2_init cX2_init 2 none 0 := ⟨(rl_b1 61 rfl rfl), (rl_b1 3 rfl rfl), by decide +kernel⟩
theorem IX2_init : Cond.instanceMethod yX2_init ∈ rl_BW := (rl_b1 60 rfl rfl)
theorem YX2_fill : rl_Y rl_BW yX2_fill cX2_fill 6 (some .boolean) 5 := ⟨(rl_b2 117 rfl rfl), (rl_b1 3 rfl rfl), by decide +kernel⟩
theorem IX2_fill : Cond.instanceMethod yX2_fill ∈ rl_BW := (rl_b2 116 rfl rfl)
theorem VX2_fill : Cond.selects yX2_fill.cls yX2_fill yX2_fill ∈ rl_BW := rl_v 13 rfl rfl
theorem YX2_fillScan : rl_Y rl_BW yX2_fillScan cX2_fillScan 5 (some .boolean) 3 := ⟨(rl_b2 125 rfl rfl), (rl_b1 3 rfl rfl), by decide +kernel⟩
theorem IX2_fillScan : Cond.instanceMethod yX2_fillScan ∈ rl_BW := (rl_b2 124 rfl rfl)
theorem VX2_fillScan : Cond.selects yX2_fillScan.cls yX2_fillScan yX2_fillScan ∈ rl_BW := rl_v 15 rfl rfl
theorem YX2_fillPick : rl_Y rl_BW yX2_fillPick cX2_fillPick 6 (some .boolean) 3 := ⟨(rl_b2 178 rfl rfl), (rl_b1 3 rfl rfl), by decide +kernel⟩
theorem IX2_fillPick : Cond.instanceMethod yX2_fillPick ∈ rl_BW := (rl_b2 177 rfl rfl)
theorem VX2_fillPick : Cond.selects yX2_fillPick.cls yX2_fillPick yX2_fillPick ∈ rl_BW := rl_v 27 rfl rfl
theorem YX2_isPicked : rl_Y rl_BW yX2_isPicked cX2_isPicked 4 (some .boolean) 2 := ⟨(rl_b2 181 rfl rfl), (rl_b1 3 rfl rfl), by decide +kernel⟩
theorem SX2_isPicked : Cond.static yX2_isPicked ∈ rl_BW := (rl_b2 180 rfl rfl)
theorem YX2_fillCols : rl_Y rl_BW yX2_fillCols cX2_fillCols 7 (some .boolean) 3 := ⟨(rl_b2 185 rfl rfl), (rl_b1 3 rfl rfl), by decide +kernel⟩
theorem IX2_fillCols : Cond.instanceMethod yX2_fillCols ∈ rl_BW := (rl_b2 184 rfl rfl)
theorem VX2_fillCols : Cond.selects yX2_fillCols.cls yX2_fillCols yX2_fillCols ∈ rl_BW := rl_v 28 rfl rfl
theorem YX2_fillJoin : rl_Y rl_BW yX2_fillJoin cX2_fillJoin 8 (some .boolean) 4 := ⟨(rl_b2 189 rfl rfl), (rl_b1 3 rfl rfl), by decide +kernel⟩
theorem IX2_fillJoin : Cond.instanceMethod yX2_fillJoin ∈ rl_BW := (rl_b2 188 rfl rfl)
theorem VX2_fillJoin : Cond.selects yX2_fillJoin.cls yX2_fillJoin yX2_fillJoin ∈ rl_BW := rl_v 29 rfl rfl
theorem YX2_putPair : rl_Y rl_BW yX2_putPair cX2_putPair 6 (some .boolean) 5 := ⟨(rl_b2 193 rfl rfl), (rl_b1 3 rfl rfl), by decide +kernel⟩
theorem IX2_putPair : Cond.instanceMethod yX2_putPair ∈ rl_BW := (rl_b2 192 rfl rfl)
theorem VX2_putPair : Cond.selects yX2_putPair.cls yX2_putPair yX2_putPair ∈ rl_BW := rl_v 30 rfl rfl
theorem YX2_putAll : rl_Y rl_BW yX2_putAll cX2_putAll 4 (some .boolean) 2 := ⟨(rl_b2 202 rfl rfl), (rl_b1 3 rfl rfl), by decide +kernel⟩
theorem IX2_putAll : Cond.instanceMethod yX2_putAll ∈ rl_BW := (rl_b2 201 rfl rfl)
theorem VX2_putAll : Cond.selects yX2_putAll.cls yX2_putAll yX2_putAll ∈ rl_BW := rl_v 32 rfl rfl
theorem YX2_fillMinus : rl_Y rl_BW yX2_fillMinus cX2_fillMinus 8 (some .boolean) 3 := ⟨(rl_b2 206 rfl rfl), (rl_b1 3 rfl rfl), by decide +kernel⟩
theorem IX2_fillMinus : Cond.instanceMethod yX2_fillMinus ∈ rl_BW := (rl_b2 205 rfl rfl)
theorem VX2_fillMinus : Cond.selects yX2_fillMinus.cls yX2_fillMinus yX2_fillMinus ∈ rl_BW := rl_v 33 rfl rfl
theorem YX2_putWithout : rl_Y rl_BW yX2_putWithout cX2_putWithout 4 (some .boolean) 3 := ⟨(rl_b2 214 rfl rfl), (rl_b1 3 rfl rfl), by decide +kernel⟩
theorem IX2_putWithout : Cond.instanceMethod yX2_putWithout ∈ rl_BW := (rl_b2 213 rfl rfl)
theorem VX2_putWithout : Cond.selects yX2_putWithout.cls yX2_putWithout yX2_putWithout ∈ rl_BW := rl_v 35 rfl rfl
theorem YX2_fillFold : rl_Y rl_BW yX2_fillFold cX2_fillFold 6 (some .boolean) 3 := ⟨(rl_b2 231 rfl rfl), (rl_b1 3 rfl rfl), by decide +kernel⟩
theorem IX2_fillFold : Cond.instanceMethod yX2_fillFold ∈ rl_BW := (rl_b2 230 rfl rfl)
theorem VX2_fillFold : Cond.selects yX2_fillFold.cls yX2_fillFold yX2_fillFold ∈ rl_BW := rl_v 39 rfl rfl
theorem YX2_isFirstOfGroup : rl_Y rl_BW yX2_isFirstOfGroup cX2_isFirstOfGroup 4 (some .boolean) 3 := ⟨(rl_b2 234 rfl rfl), (rl_b1 3 rfl rfl), by decide +kernel⟩
theorem SX2_isFirstOfGroup : Cond.static yX2_isFirstOfGroup ∈ rl_BW := (rl_b2 233 rfl rfl)
theorem YX2_gatherGroup : rl_Y rl_BW yX2_gatherGroup cX2_gatherGroup 6 (some .int) 3 := ⟨(rl_b2 238 rfl rfl), (rl_b1 3 rfl rfl), by decide +kernel⟩
theorem IX2_gatherGroup : Cond.instanceMethod yX2_gatherGroup ∈ rl_BW := (rl_b2 237 rfl rfl)
theorem VX2_gatherGroup : Cond.selects yX2_gatherGroup.cls yX2_gatherGroup yX2_gatherGroup ∈ rl_BW := rl_v 40 rfl rfl
theorem YX2_putGroup : rl_Y rl_BW yX2_putGroup cX2_putGroup 5 (some .boolean) 3 := ⟨(rl_b3 2 rfl rfl), (rl_b1 3 rfl rfl), by decide +kernel⟩
theorem IX2_putGroup : Cond.instanceMethod yX2_putGroup ∈ rl_BW := (rl_b3 1 rfl rfl)
theorem VX2_putGroup : Cond.selects yX2_putGroup.cls yX2_putGroup yX2_putGroup ∈ rl_BW := rl_v 41 rfl rfl
theorem YX2_turnGroup : rl_Y rl_BW yX2_turnGroup cX2_turnGroup 3 (some .boolean) 1 := ⟨(rl_b3 6 rfl rfl), (rl_b1 3 rfl rfl), by decide +kernel⟩
theorem IX2_turnGroup : Cond.instanceMethod yX2_turnGroup ∈ rl_BW := (rl_b3 5 rfl rfl)
theorem VX2_turnGroup : Cond.selects yX2_turnGroup.cls yX2_turnGroup yX2_turnGroup ∈ rl_BW := rl_v 42 rfl rfl
theorem YX2_makeWaysOfSet : rl_Y rl_BW yX2_makeWaysOfSet cX2_makeWaysOfSet 5 (some .boolean) 2 := ⟨(rl_b3 16 rfl rfl), (rl_b1 3 rfl rfl), by decide +kernel⟩
theorem IX2_makeWaysOfSet : Cond.instanceMethod yX2_makeWaysOfSet ∈ rl_BW := (rl_b3 15 rfl rfl)
theorem VX2_makeWaysOfSet : Cond.selects yX2_makeWaysOfSet.cls yX2_makeWaysOfSet yX2_makeWaysOfSet ∈ rl_BW := rl_v 44 rfl rfl
theorem YX2_foldedNumber : rl_Y rl_BW yX2_foldedNumber cX2_foldedNumber 10 (some .int) 3 := ⟨(rl_b3 10 rfl rfl), (rl_b1 3 rfl rfl), by decide +kernel⟩
theorem IX2_foldedNumber : Cond.instanceMethod yX2_foldedNumber ∈ rl_BW := (rl_b3 9 rfl rfl)
theorem VX2_foldedNumber : Cond.selects yX2_foldedNumber.cls yX2_foldedNumber yX2_foldedNumber ∈ rl_BW := rl_v 43 rfl rfl
theorem YX2_put : rl_Y rl_BW yX2_put cX2_put 5 (some .boolean) 3 := ⟨(rl_b2 133 rfl rfl), (rl_b1 3 rfl rfl), by decide +kernel⟩
theorem IX2_put : Cond.instanceMethod yX2_put ∈ rl_BW := (rl_b2 132 rfl rfl)
theorem VX2_put : Cond.selects yX2_put.cls yX2_put yX2_put ∈ rl_BW := rl_v 17 rfl rfl
theorem YX3_init : rl_Y rl_BW yX3_init cX3_init 1 none 0 := ⟨(rl_b1 30 rfl rfl), (rl_b1 2 rfl rfl), by decide +kernel⟩
theorem IX3_init : Cond.instanceMethod yX3_init ∈ rl_BW := (rl_b1 29 rfl rfl)
theorem YX3_isSource : rl_Y rl_BW yX3_isSource cX3_isSource 2 (some .boolean) 1 := ⟨(rl_b1 214 rfl rfl), (rl_b1 2 rfl rfl), by decide +kernel⟩
theorem IX3_isSource : Cond.instanceMethod yX3_isSource ∈ rl_BW := (rl_b1 213 rfl rfl)
theorem VX3_isSource : Cond.selects yX3_isSource.cls yX3_isSource yX3_isSource ∈ rl_BW := rl_v 1 rfl rfl
theorem YX3_isRow : rl_Y rl_BW yX3_isRow cX3_isRow 2 (some .boolean) 1 := ⟨(rl_b3 33 rfl rfl), (rl_b1 2 rfl rfl), by decide +kernel⟩
theorem IX3_isRow : Cond.instanceMethod yX3_isRow ∈ rl_BW := (rl_b3 32 rfl rfl)
theorem VX3_isRow : Cond.selects yX3_isRow.cls yX3_isRow yX3_isRow ∈ rl_BW := rl_v 46 rfl rfl
theorem YX3_addSource : rl_Y rl_BW yX3_addSource cX3_addSource 2 (some .int) 1 := ⟨(rl_b1 206 rfl rfl), (rl_b1 2 rfl rfl), by decide +kernel⟩
theorem IX3_addSource : Cond.instanceMethod yX3_addSource ∈ rl_BW := (rl_b1 205 rfl rfl)
theorem VX3_addSource : Cond.selects yX3_addSource.cls yX3_addSource yX3_addSource ∈ rl_BW := rl_v 0 rfl rfl
theorem YX3_addRow : rl_Y rl_BW yX3_addRow cX3_addRow 7 (some .int) 5 := ⟨(rl_b1 218 rfl rfl), (rl_b1 2 rfl rfl), by decide +kernel⟩
theorem IX3_addRow : Cond.instanceMethod yX3_addRow ∈ rl_BW := (rl_b1 217 rfl rfl)
theorem VX3_addRow : Cond.selects yX3_addRow.cls yX3_addRow yX3_addRow ∈ rl_BW := rl_v 2 rfl rfl
theorem YX3_forgetAll : rl_Y rl_BW yX3_forgetAll cX3_forgetAll 1 none 0 := ⟨(rl_b3 125 rfl rfl), (rl_b1 2 rfl rfl), by decide +kernel⟩
theorem IX3_forgetAll : Cond.instanceMethod yX3_forgetAll ∈ rl_BW := (rl_b3 124 rfl rfl)
theorem VX3_forgetAll : Cond.selects yX3_forgetAll.cls yX3_forgetAll yX3_forgetAll ∈ rl_BW := rl_v 55 rfl rfl
theorem YX4_init : rl_Y rl_BW yX4_init cX4_init 3 none 1 := ⟨(rl_b1 130 rfl rfl), (rl_b1 6 rfl rfl), by decide +kernel⟩
theorem IX4_init : Cond.instanceMethod yX4_init ∈ rl_BW := (rl_b1 129 rfl rfl)
theorem YX4_begin : rl_Y rl_BW yX4_begin cX4_begin 2 none 1 := ⟨(rl_b2 121 rfl rfl), (rl_b1 6 rfl rfl), by decide +kernel⟩
theorem IX4_begin : Cond.instanceMethod yX4_begin ∈ rl_BW := (rl_b2 120 rfl rfl)
theorem VX4_begin : Cond.selects yX4_begin.cls yX4_begin yX4_begin ∈ rl_BW := rl_v 14 rfl rfl
theorem YX4_find : rl_Y rl_BW yX4_find cX4_find 3 (some (.object "RowLineage$Tuple")) 1 := ⟨(rl_b2 210 rfl rfl), (rl_b1 6 rfl rfl), by decide +kernel⟩
theorem IX4_find : Cond.instanceMethod yX4_find ∈ rl_BW := (rl_b2 209 rfl rfl)
theorem VX4_find : Cond.selects yX4_find.cls yX4_find yX4_find ∈ rl_BW := rl_v 34 rfl rfl
theorem YX4_findOrAdd : rl_Y rl_BW yX4_findOrAdd cX4_findOrAdd 5 (some (.object "RowLineage$Tuple")) 1 := ⟨(rl_b2 137 rfl rfl), (rl_b1 6 rfl rfl), by decide +kernel⟩
theorem IX4_findOrAdd : Cond.instanceMethod yX4_findOrAdd ∈ rl_BW := (rl_b2 136 rfl rfl)
theorem VX4_findOrAdd : Cond.selects yX4_findOrAdd.cls yX4_findOrAdd yX4_findOrAdd ∈ rl_BW := rl_v 18 rfl rfl
theorem YX4_firstBehind : rl_Y rl_BW yX4_firstBehind cX4_firstBehind 3 (some .int) 1 := ⟨(rl_b2 141 rfl rfl), (rl_b1 6 rfl rfl), by decide +kernel⟩
theorem IX4_firstBehind : Cond.instanceMethod yX4_firstBehind ∈ rl_BW := (rl_b2 140 rfl rfl)
theorem VX4_firstBehind : Cond.selects yX4_firstBehind.cls yX4_firstBehind yX4_firstBehind ∈ rl_BW := rl_v 19 rfl rfl
theorem YX4_order : rl_Y rl_BW yX4_order cX4_order 4 (some .int) 2 := ⟨(rl_b2 145 rfl rfl), (rl_b1 6 rfl rfl), by decide +kernel⟩
theorem IX4_order : Cond.instanceMethod yX4_order ∈ rl_BW := (rl_b2 144 rfl rfl)
theorem VX4_order : Cond.selects yX4_order.cls yX4_order yX4_order ∈ rl_BW := rl_v 20 rfl rfl
theorem YX4_howManyHold : rl_Y rl_BW yX4_howManyHold cX4_howManyHold 5 (some .int) 1 := ⟨(rl_b3 116 rfl rfl), (rl_b1 6 rfl rfl), by decide +kernel⟩
theorem IX4_howManyHold : Cond.instanceMethod yX4_howManyHold ∈ rl_BW := (rl_b3 115 rfl rfl)
theorem VX4_howManyHold : Cond.selects yX4_howManyHold.cls yX4_howManyHold yX4_howManyHold ∈ rl_BW := rl_v 54 rfl rfl
theorem YX5_init : rl_Y rl_BW yX5_init cX5_init 1 none 0 := ⟨(rl_b1 136 rfl rfl), (rl_b1 7 rfl rfl), by decide +kernel⟩
theorem IX5_init : Cond.instanceMethod yX5_init ∈ rl_BW := (rl_b1 135 rfl rfl)
theorem YX5_become : rl_Y rl_BW yX5_become cX5_become 2 none 1 := ⟨(rl_b2 149 rfl rfl), (rl_b1 7 rfl rfl), by decide +kernel⟩
theorem IX5_become : Cond.instanceMethod yX5_become ∈ rl_BW := (rl_b2 148 rfl rfl)
theorem VX5_become : Cond.selects yX5_become.cls yX5_become yX5_become ∈ rl_BW := rl_v 21 rfl rfl
theorem YX6_init : rl_Y rl_BW yX6_init cX6_init 1 none 0 := ⟨(rl_b1 84 rfl rfl), (rl_b1 5 rfl rfl), by decide +kernel⟩
theorem IX6_init : Cond.instanceMethod yX6_init ∈ rl_BW := (rl_b1 83 rfl rfl)
theorem YX6_becomeFalse : rl_Y rl_BW yX6_becomeFalse cX6_becomeFalse 1 none 0 := ⟨(rl_b2 156 rfl rfl), (rl_b1 5 rfl rfl), by decide +kernel⟩
theorem IX6_becomeFalse : Cond.instanceMethod yX6_becomeFalse ∈ rl_BW := (rl_b2 155 rfl rfl)
theorem VX6_becomeFalse : Cond.selects yX6_becomeFalse.cls yX6_becomeFalse yX6_becomeFalse ∈ rl_BW := rl_v 22 rfl rfl
theorem YX6_becomeTrue : rl_Y rl_BW yX6_becomeTrue cX6_becomeTrue 1 none 0 := ⟨(rl_b2 222 rfl rfl), (rl_b1 5 rfl rfl), by decide +kernel⟩
theorem IX6_becomeTrue : Cond.instanceMethod yX6_becomeTrue ∈ rl_BW := (rl_b2 221 rfl rfl)
theorem VX6_becomeTrue : Cond.selects yX6_becomeTrue.cls yX6_becomeTrue yX6_becomeTrue ∈ rl_BW := rl_v 37 rfl rfl
theorem YX6_becomeTerm : rl_Y rl_BW yX6_becomeTerm cX6_becomeTerm 5 none 2 := ⟨(rl_b2 129 rfl rfl), (rl_b1 5 rfl rfl), by decide +kernel⟩
theorem IX6_becomeTerm : Cond.instanceMethod yX6_becomeTerm ∈ rl_BW := (rl_b2 128 rfl rfl)
theorem VX6_becomeTerm : Cond.selects yX6_becomeTerm.cls yX6_becomeTerm yX6_becomeTerm ∈ rl_BW := rl_v 16 rfl rfl
theorem YX6_insert : rl_Y rl_BW yX6_insert cX6_insert 6 none 2 := ⟨(rl_b2 174 rfl rfl), (rl_b1 5 rfl rfl), by decide +kernel⟩
theorem IX6_insert : Cond.instanceMethod yX6_insert ∈ rl_BW := (rl_b2 173 rfl rfl)
theorem VX6_insert : Cond.selects yX6_insert.cls yX6_insert yX6_insert ∈ rl_BW := rl_v 26 rfl rfl
theorem YX6_firstThatHolds : rl_Y rl_BW yX6_firstThatHolds cX6_firstThatHolds 4 (some .int) 1 := ⟨(rl_b3 46 rfl rfl), (rl_b1 5 rfl rfl), by decide +kernel⟩
theorem IX6_firstThatHolds : Cond.instanceMethod yX6_firstThatHolds ∈ rl_BW := (rl_b3 45 rfl rfl)
theorem VX6_firstThatHolds : Cond.selects yX6_firstThatHolds.cls yX6_firstThatHolds yX6_firstThatHolds ∈ rl_BW := rl_v 48 rfl rfl
theorem YX6_holdsWith : rl_Y rl_BW yX6_holdsWith cX6_holdsWith 3 (some .boolean) 1 := ⟨(rl_b3 42 rfl rfl), (rl_b1 5 rfl rfl), by decide +kernel⟩
theorem IX6_holdsWith : Cond.instanceMethod yX6_holdsWith ∈ rl_BW := (rl_b3 41 rfl rfl)
theorem VX6_holdsWith : Cond.selects yX6_holdsWith.cls yX6_holdsWith yX6_holdsWith ∈ rl_BW := rl_v 47 rfl rfl
theorem YX6_rowsOfTerms : rl_Y rl_BW yX6_rowsOfTerms cX6_rowsOfTerms 4 (some .long) 0 := ⟨(rl_b3 71 rfl rfl), (rl_b1 5 rfl rfl), by decide +kernel⟩
theorem IX6_rowsOfTerms : Cond.instanceMethod yX6_rowsOfTerms ∈ rl_BW := (rl_b3 70 rfl rfl)
theorem VX6_rowsOfTerms : Cond.selects yX6_rowsOfTerms.cls yX6_rowsOfTerms yX6_rowsOfTerms ∈ rl_BW := rl_v 49 rfl rfl
theorem YX6_leastDropsToHold : rl_Y rl_BW yX6_leastDropsToHold cX6_leastDropsToHold 6 (some .int) 1 := ⟨(rl_b3 100 rfl rfl), (rl_b1 5 rfl rfl), by decide +kernel⟩
theorem IX6_leastDropsToHold : Cond.instanceMethod yX6_leastDropsToHold ∈ rl_BW := (rl_b3 99 rfl rfl)
theorem VX6_leastDropsToHold : Cond.selects yX6_leastDropsToHold.cls yX6_leastDropsToHold yX6_leastDropsToHold ∈ rl_BW := rl_v 52 rfl rfl
theorem YX7_init : rl_Y rl_BW yX7_init cX7_init 1 none 0 := ⟨(rl_b1 22 rfl rfl), (rl_b1 1 rfl rfl), by decide +kernel⟩
theorem IX7_init : Cond.instanceMethod yX7_init ∈ rl_BW := (rl_b1 21 rfl rfl)
theorem YX7_source : rl_Y rl_BW yX7_source cX7_source 2 (some .int) 1 := ⟨(rl_b1 202 rfl rfl), (rl_b1 1 rfl rfl), by decide +kernel⟩
theorem IX7_source : Cond.instanceMethod yX7_source ∈ rl_BW := (rl_b1 200 rfl rfl)
theorem VX7_source : Cond.selects yX7_source.cls yX7_source yX7_source ∈ rl_BW := (rl_b1 201 rfl rfl)
theorem YX7_row : rl_Y rl_BW yX7_row cX7_row 7 (some .int) 5 := ⟨(rl_b1 210 rfl rfl), (rl_b1 1 rfl rfl), by decide +kernel⟩
theorem IX7_row : Cond.instanceMethod yX7_row ∈ rl_BW := (rl_b1 208 rfl rfl)
theorem VX7_row : Cond.selects yX7_row.cls yX7_row yX7_row ∈ rl_BW := (rl_b1 209 rfl rfl)
theorem YX7_scan : rl_Y rl_BW yX7_scan cX7_scan 2 (some .int) 1 := ⟨(rl_b1 226 rfl rfl), (rl_b1 1 rfl rfl), by decide +kernel⟩
theorem IX7_scan : Cond.instanceMethod yX7_scan ∈ rl_BW := (rl_b1 224 rfl rfl)
theorem VX7_scan : Cond.selects yX7_scan.cls yX7_scan yX7_scan ∈ rl_BW := (rl_b1 225 rfl rfl)
theorem YX7_pick : rl_Y rl_BW yX7_pick cX7_pick 6 (some .int) 5 := ⟨(rl_b2 45 rfl rfl), (rl_b1 1 rfl rfl), by decide +kernel⟩
theorem IX7_pick : Cond.instanceMethod yX7_pick ∈ rl_BW := (rl_b2 43 rfl rfl)
theorem VX7_pick : Cond.selects yX7_pick.cls yX7_pick yX7_pick ∈ rl_BW := (rl_b2 44 rfl rfl)
theorem YX7_cols : rl_Y rl_BW yX7_cols cX7_cols 3 (some .int) 2 := ⟨(rl_b2 57 rfl rfl), (rl_b1 1 rfl rfl), by decide +kernel⟩
theorem IX7_cols : Cond.instanceMethod yX7_cols ∈ rl_BW := (rl_b2 55 rfl rfl)
theorem VX7_cols : Cond.selects yX7_cols.cls yX7_cols yX7_cols ∈ rl_BW := (rl_b2 56 rfl rfl)
theorem YX7_join : rl_Y rl_BW yX7_join cX7_join 6 (some .int) 4 := ⟨(rl_b2 77 rfl rfl), (rl_b1 1 rfl rfl), by decide +kernel⟩
theorem IX7_join : Cond.instanceMethod yX7_join ∈ rl_BW := (rl_b2 75 rfl rfl)
theorem VX7_join : Cond.selects yX7_join.cls yX7_join yX7_join ∈ rl_BW := (rl_b2 76 rfl rfl)
theorem YX7_unite : rl_Y rl_BW yX7_unite cX7_unite 3 (some .int) 2 := ⟨(rl_b2 81 rfl rfl), (rl_b1 1 rfl rfl), by decide +kernel⟩
theorem IX7_unite : Cond.instanceMethod yX7_unite ∈ rl_BW := (rl_b2 79 rfl rfl)
theorem VX7_unite : Cond.selects yX7_unite.cls yX7_unite yX7_unite ∈ rl_BW := (rl_b2 80 rfl rfl)
theorem YX7_minus : rl_Y rl_BW yX7_minus cX7_minus 3 (some .int) 2 := ⟨(rl_b2 89 rfl rfl), (rl_b1 1 rfl rfl), by decide +kernel⟩
theorem IX7_minus : Cond.instanceMethod yX7_minus ∈ rl_BW := (rl_b2 87 rfl rfl)
theorem VX7_minus : Cond.selects yX7_minus.cls yX7_minus yX7_minus ∈ rl_BW := (rl_b2 88 rfl rfl)
theorem YX7_fold : rl_Y rl_BW yX7_fold cX7_fold 5 (some .int) 4 := ⟨(rl_b2 93 rfl rfl), (rl_b1 1 rfl rfl), by decide +kernel⟩
theorem IX7_fold : Cond.instanceMethod yX7_fold ∈ rl_BW := (rl_b2 91 rfl rfl)
theorem VX7_fold : Cond.selects yX7_fold.cls yX7_fold yX7_fold ∈ rl_BW := (rl_b2 92 rfl rfl)
theorem YX7_columns : rl_Y rl_BW yX7_columns cX7_columns 2 (some .int) 1 := ⟨(rl_b2 97 rfl rfl), (rl_b1 1 rfl rfl), by decide +kernel⟩
theorem IX7_columns : Cond.instanceMethod yX7_columns ∈ rl_BW := (rl_b2 95 rfl rfl)
theorem VX7_columns : Cond.selects yX7_columns.cls yX7_columns yX7_columns ∈ rl_BW := (rl_b2 96 rfl rfl)
theorem YX7_run : rl_Y rl_BW yX7_run cX7_run 9 (some .int) 1 := ⟨(rl_b2 101 rfl rfl), (rl_b1 1 rfl rfl), by decide +kernel⟩
theorem IX7_run : Cond.instanceMethod yX7_run ∈ rl_BW := (rl_b2 99 rfl rfl)
theorem VX7_run : Cond.selects yX7_run.cls yX7_run yX7_run ∈ rl_BW := (rl_b2 100 rfl rfl)
theorem YX7_cell : rl_Y rl_BW yX7_cell cX7_cell 4 (some .int) 2 := ⟨(rl_b3 133 rfl rfl), (rl_b1 1 rfl rfl), by decide +kernel⟩
theorem IX7_cell : Cond.instanceMethod yX7_cell ∈ rl_BW := (rl_b3 131 rfl rfl)
theorem VX7_cell : Cond.selects yX7_cell.cls yX7_cell yX7_cell ∈ rl_BW := (rl_b3 132 rfl rfl)
theorem YX7_ways : rl_Y rl_BW yX7_ways cX7_ways 3 (some .int) 1 := ⟨(rl_b3 21 rfl rfl), (rl_b1 1 rfl rfl), by decide +kernel⟩
theorem IX7_ways : Cond.instanceMethod yX7_ways ∈ rl_BW := (rl_b3 19 rfl rfl)
theorem VX7_ways : Cond.selects yX7_ways.cls yX7_ways yX7_ways ∈ rl_BW := (rl_b3 20 rfl rfl)
theorem YX7_way : rl_Y rl_BW yX7_way cX7_way 5 (some .long) 3 := ⟨(rl_b3 209 rfl rfl), (rl_b1 1 rfl rfl), by decide +kernel⟩
theorem IX7_way : Cond.instanceMethod yX7_way ∈ rl_BW := (rl_b3 207 rfl rfl)
theorem VX7_way : Cond.selects yX7_way.cls yX7_way yX7_way ∈ rl_BW := (rl_b3 208 rfl rfl)
theorem YX7_drop : rl_Y rl_BW yX7_drop cX7_drop 5 (some .int) 2 := ⟨(rl_b3 29 rfl rfl), (rl_b1 1 rfl rfl), by decide +kernel⟩
theorem IX7_drop : Cond.instanceMethod yX7_drop ∈ rl_BW := (rl_b3 27 rfl rfl)
theorem VX7_drop : Cond.selects yX7_drop.cls yX7_drop yX7_drop ∈ rl_BW := (rl_b3 28 rfl rfl)
theorem YX7_holds : rl_Y rl_BW yX7_holds cX7_holds 3 (some .int) 1 := ⟨(rl_b3 38 rfl rfl), (rl_b1 1 rfl rfl), by decide +kernel⟩
theorem IX7_holds : Cond.instanceMethod yX7_holds ∈ rl_BW := (rl_b3 36 rfl rfl)
theorem VX7_holds : Cond.selects yX7_holds.cls yX7_holds yX7_holds ∈ rl_BW := (rl_b3 37 rfl rfl)
theorem YX7_made : rl_Y rl_BW yX7_made cX7_made 3 (some .int) 1 := ⟨(rl_b3 54 rfl rfl), (rl_b1 1 rfl rfl), by decide +kernel⟩
theorem IX7_made : Cond.instanceMethod yX7_made ∈ rl_BW := (rl_b3 52 rfl rfl)
theorem VX7_made : Cond.selects yX7_made.cls yX7_made yX7_made ∈ rl_BW := (rl_b3 53 rfl rfl)
theorem YX7_under : rl_Y rl_BW yX7_under cX7_under 5 (some .int) 2 := ⟨(rl_b3 59 rfl rfl), (rl_b1 1 rfl rfl), by decide +kernel⟩
theorem IX7_under : Cond.instanceMethod yX7_under ∈ rl_BW := (rl_b3 57 rfl rfl)
theorem VX7_under : Cond.selects yX7_under.cls yX7_under yX7_under ∈ rl_BW := (rl_b3 58 rfl rfl)
theorem YX7_forward : rl_Y rl_BW yX7_forward cX7_forward 6 (some .int) 1 := ⟨(rl_b3 63 rfl rfl), (rl_b1 1 rfl rfl), by decide +kernel⟩
theorem IX7_forward : Cond.instanceMethod yX7_forward ∈ rl_BW := (rl_b3 61 rfl rfl)
theorem VX7_forward : Cond.selects yX7_forward.cls yX7_forward yX7_forward ∈ rl_BW := (rl_b3 62 rfl rfl)
theorem YX7_count : rl_Y rl_BW yX7_count cX7_count 4 (some .int) 1 := ⟨(rl_b3 67 rfl rfl), (rl_b1 1 rfl rfl), by decide +kernel⟩
theorem IX7_count : Cond.instanceMethod yX7_count ∈ rl_BW := (rl_b3 65 rfl rfl)
theorem VX7_count : Cond.selects yX7_count.cls yX7_count yX7_count ∈ rl_BW := (rl_b3 66 rfl rfl)
theorem YX7_matters : rl_Y rl_BW yX7_matters cX7_matters 9 (some .int) 2 := ⟨(rl_b3 84 rfl rfl), (rl_b1 1 rfl rfl), by decide +kernel⟩
theorem IX7_matters : Cond.instanceMethod yX7_matters ∈ rl_BW := (rl_b3 82 rfl rfl)
theorem VX7_matters : Cond.selects yX7_matters.cls yX7_matters yX7_matters ∈ rl_BW := (rl_b3 83 rfl rfl)
theorem YX7_blame : rl_Y rl_BW yX7_blame cX7_blame 5 (some .int) 1 := ⟨(rl_b3 96 rfl rfl), (rl_b1 1 rfl rfl), by decide +kernel⟩
theorem IX7_blame : Cond.instanceMethod yX7_blame ∈ rl_BW := (rl_b3 94 rfl rfl)
theorem VX7_blame : Cond.selects yX7_blame.cls yX7_blame yX7_blame ∈ rl_BW := (rl_b3 95 rfl rfl)
theorem YX7_told : rl_Y rl_BW yX7_told cX7_told 2 (some .int) 1 := ⟨(rl_b3 112 rfl rfl), (rl_b1 1 rfl rfl), by decide +kernel⟩
theorem IX7_told : Cond.instanceMethod yX7_told ∈ rl_BW := (rl_b3 110 rfl rfl)
theorem VX7_told : Cond.selects yX7_told.cls yX7_told yX7_told ∈ rl_BW := (rl_b3 111 rfl rfl)
theorem YX7_clear : rl_Y rl_BW yX7_clear cX7_clear 1 none 0 := ⟨(rl_b3 121 rfl rfl), (rl_b1 1 rfl rfl), by decide +kernel⟩
theorem IX7_clear : Cond.instanceMethod yX7_clear ∈ rl_BW := (rl_b3 119 rfl rfl)
theorem VX7_clear : Cond.selects yX7_clear.cls yX7_clear yX7_clear ∈ rl_BW := (rl_b3 120 rfl rfl)
theorem YX7_isNode : rl_Y rl_BW yX7_isNode cX7_isNode 2 (some .boolean) 1 := ⟨(rl_b2 53 rfl rfl), (rl_b1 1 rfl rfl), by decide +kernel⟩
theorem IX7_isNode : Cond.instanceMethod yX7_isNode ∈ rl_BW := (rl_b2 52 rfl rfl)
theorem VX7_isNode : Cond.selects yX7_isNode.cls yX7_isNode yX7_isNode ∈ rl_BW := rl_v 8 rfl rfl
theorem YX7_hasColumn : rl_Y rl_BW yX7_hasColumn cX7_hasColumn 3 (some .boolean) 2 := ⟨(rl_b2 49 rfl rfl), (rl_b1 1 rfl rfl), by decide +kernel⟩
theorem IX7_hasColumn : Cond.instanceMethod yX7_hasColumn ∈ rl_BW := (rl_b2 48 rfl rfl)
theorem VX7_hasColumn : Cond.selects yX7_hasColumn.cls yX7_hasColumn yX7_hasColumn ∈ rl_BW := rl_v 7 rfl rfl
theorem YX7_addAlikeNode : rl_Y rl_BW yX7_addAlikeNode cX7_addAlikeNode 4 (some .int) 3 := ⟨(rl_b2 85 rfl rfl), (rl_b1 1 rfl rfl), by decide +kernel⟩
theorem IX7_addAlikeNode : Cond.instanceMethod yX7_addAlikeNode ∈ rl_BW := (rl_b2 84 rfl rfl)
theorem VX7_addAlikeNode : Cond.selects yX7_addAlikeNode.cls yX7_addAlikeNode yX7_addAlikeNode ∈ rl_BW := rl_v 9 rfl rfl
theorem YX7_openNode : rl_Y rl_BW yX7_openNode cX7_openNode 5 (some (.object "RowLineage$Node")) 4 := ⟨(rl_b1 230 rfl rfl), (rl_b1 1 rfl rfl), by decide +kernel⟩
theorem IX7_openNode : Cond.instanceMethod yX7_openNode ∈ rl_BW := (rl_b1 229 rfl rfl)
theorem VX7_openNode : Cond.selects yX7_openNode.cls yX7_openNode yX7_openNode ∈ rl_BW := rl_v 4 rfl rfl
theorem YX7_forgetWhatNodesGave : rl_Y rl_BW yX7_forgetWhatNodesGave cX7_forgetWhatNodesGave 2 none 0 := ⟨(rl_b1 222 rfl rfl), (rl_b1 1 rfl rfl), by decide +kernel⟩
theorem IX7_forgetWhatNodesGave : Cond.instanceMethod yX7_forgetWhatNodesGave ∈ rl_BW := (rl_b1 221 rfl rfl)
theorem VX7_forgetWhatNodesGave : Cond.selects yX7_forgetWhatNodesGave.cls yX7_forgetWhatNodesGave yX7_forgetWhatNodesGave ∈ rl_BW := rl_v 3 rfl rfl
theorem YX7_neededNodes : rl_Y rl_BW yX7_neededNodes cX7_neededNodes 5 (some .long) 1 := ⟨(rl_b2 105 rfl rfl), (rl_b1 1 rfl rfl), by decide +kernel⟩
theorem IX7_neededNodes : Cond.instanceMethod yX7_neededNodes ∈ rl_BW := (rl_b2 104 rfl rfl)
theorem VX7_neededNodes : Cond.selects yX7_neededNodes.cls yX7_neededNodes yX7_neededNodes ∈ rl_BW := rl_v 10 rfl rfl
theorem YX7_bitOfNode : rl_Y rl_BW yX7_bitOfNode cX7_bitOfNode 2 (some .long) 1 := ⟨(rl_b2 109 rfl rfl), (rl_b1 1 rfl rfl), by decide +kernel⟩
theorem IX7_bitOfNode : Cond.instanceMethod yX7_bitOfNode ∈ rl_BW := (rl_b2 108 rfl rfl)
theorem VX7_bitOfNode : Cond.selects yX7_bitOfNode.cls yX7_bitOfNode yX7_bitOfNode ∈ rl_BW := rl_v 11 rfl rfl
theorem YX7_tableOf : rl_Y rl_BW yX7_tableOf cX7_tableOf 2 (some (.object "RowLineage$Table")) 1 := ⟨(rl_b2 113 rfl rfl), (rl_b1 1 rfl rfl), by decide +kernel⟩
theorem IX7_tableOf : Cond.instanceMethod yX7_tableOf ∈ rl_BW := (rl_b2 112 rfl rfl)
theorem VX7_tableOf : Cond.selects yX7_tableOf.cls yX7_tableOf yX7_tableOf ∈ rl_BW := rl_v 12 rfl rfl
theorem YX7_resultTuple : rl_Y rl_BW yX7_resultTuple cX7_resultTuple 3 (some (.object "RowLineage$Tuple")) 1 := ⟨(rl_b3 25 rfl rfl), (rl_b1 1 rfl rfl), by decide +kernel⟩
theorem IX7_resultTuple : Cond.instanceMethod yX7_resultTuple ∈ rl_BW := (rl_b3 24 rfl rfl)
theorem VX7_resultTuple : Cond.selects yX7_resultTuple.cls yX7_resultTuple yX7_resultTuple ∈ rl_BW := rl_v 45 rfl rfl
theorem YX7_asNumber : rl_Y rl_BW yX7_asNumber cX7_asNumber 1 (some .int) 1 := ⟨(rl_b3 50 rfl rfl), (rl_b1 1 rfl rfl), by decide +kernel⟩
theorem SX7_asNumber : Cond.static yX7_asNumber ∈ rl_BW := (rl_b3 49 rfl rfl)
theorem YX7_leastDigit : rl_Y rl_BW yX7_leastDigit cX7_leastDigit 3 (some .int) 1 := ⟨(rl_b2 61 rfl rfl), (rl_b1 1 rfl rfl), by decide +kernel⟩
theorem SX7_leastDigit : Cond.static yX7_leastDigit ∈ rl_BW := (rl_b2 60 rfl rfl)
theorem YX7_greatestDigit : rl_Y rl_BW yX7_greatestDigit cX7_greatestDigit 3 (some .int) 1 := ⟨(rl_b2 67 rfl rfl), (rl_b1 1 rfl rfl), by decide +kernel⟩
theorem SX7_greatestDigit : Cond.static yX7_greatestDigit ∈ rl_BW := (rl_b2 66 rfl rfl)
theorem YX7_digitCount : rl_Y rl_BW yX7_digitCount cX7_digitCount 3 (some .int) 1 := ⟨(rl_b2 73 rfl rfl), (rl_b1 1 rfl rfl), by decide +kernel⟩
theorem SX7_digitCount : Cond.static yX7_digitCount ∈ rl_BW := (rl_b2 72 rfl rfl)
theorem YX7_setsWithNone : rl_Y rl_BW yX7_setsWithNone cX7_setsWithNone 12 (some .int) 5 := ⟨(rl_b3 80 rfl rfl), (rl_b1 1 rfl rfl), by decide +kernel⟩
theorem SX7_setsWithNone : Cond.static yX7_setsWithNone ∈ rl_BW := (rl_b3 79 rfl rfl)
theorem YX7_isSeen : rl_Y rl_BW yX7_isSeen cX7_isSeen 6 (some .boolean) 3 := ⟨(rl_b3 88 rfl rfl), (rl_b1 1 rfl rfl), by decide +kernel⟩
theorem IX7_isSeen : Cond.instanceMethod yX7_isSeen ∈ rl_BW := (rl_b3 87 rfl rfl)
theorem VX7_isSeen : Cond.selects yX7_isSeen.cls yX7_isSeen yX7_isSeen ∈ rl_BW := rl_v 50 rfl rfl
theorem YX7_leastDropsToBreak : rl_Y rl_BW yX7_leastDropsToBreak cX7_leastDropsToBreak 3 (some .int) 1 := ⟨(rl_b3 105 rfl rfl), (rl_b1 1 rfl rfl), by decide +kernel⟩
theorem IX7_leastDropsToBreak : Cond.instanceMethod yX7_leastDropsToBreak ∈ rl_BW := (rl_b3 104 rfl rfl)
theorem VX7_leastDropsToBreak : Cond.selects yX7_leastDropsToBreak.cls yX7_leastDropsToBreak yX7_leastDropsToBreak ∈ rl_BW := rl_v 53 rfl rfl
theorem YX7_canBreak : rl_Y rl_BW yX7_canBreak cX7_canBreak 8 (some .boolean) 3 := ⟨(rl_b3 108 rfl rfl), (rl_b1 1 rfl rfl), by decide +kernel⟩
theorem SX7_canBreak : Cond.static yX7_canBreak ∈ rl_BW := (rl_b3 107 rfl rfl)
theorem YX8_init : rl_Y rl_BW yX8_init cX8_init 1 none 0 := ⟨(rl_b3 231 rfl rfl), (rl_b1 8 rfl rfl), by decide +kernel⟩
theorem IX8_init : Cond.instanceMethod yX8_init ∈ rl_BW := (rl_b3 230 rfl rfl)
theorem YX8_thrown : rl_Y rl_BW yX8_thrown cX8_thrown 1 (some .int) 0 := ⟨(rl_b4 91 rfl rfl), (rl_b1 8 rfl rfl), by decide +kernel⟩
theorem IX8_thrown : Cond.instanceMethod yX8_thrown ∈ rl_BW := (rl_b4 89 rfl rfl)
theorem VX8_thrown : Cond.selects yX8_thrown.cls yX8_thrown yX8_thrown ∈ rl_BW := (rl_b4 90 rfl rfl)
theorem YX8_heapTerm : rl_Y rl_BW yX8_heapTerm cX8_heapTerm 5 none 2 := ⟨(rl_b4 188 rfl rfl), (rl_b1 8 rfl rfl), by decide +kernel⟩
theorem IX8_heapTerm : Cond.instanceMethod yX8_heapTerm ∈ rl_BW := (rl_b4 187 rfl rfl)
theorem VX8_heapTerm : Cond.selects yX8_heapTerm.cls yX8_heapTerm yX8_heapTerm ∈ rl_BW := rl_v 69 rfl rfl
theorem YX8_goes : rl_Y rl_BW yX8_goes cX8_goes 5 (some .boolean) 1 := ⟨(rl_b4 196 rfl rfl), (rl_b1 8 rfl rfl), by decide +kernel⟩
theorem IX8_goes : Cond.instanceMethod yX8_goes ∈ rl_BW := (rl_b4 195 rfl rfl)
theorem VX8_goes : Cond.selects yX8_goes.cls yX8_goes yX8_goes ∈ rl_BW := rl_v 71 rfl rfl
theorem YX8_settle : rl_Y rl_BW yX8_settle cX8_settle 6 none 1 := ⟨(rl_b4 192 rfl rfl), (rl_b1 8 rfl rfl), by decide +kernel⟩
theorem IX8_settle : Cond.instanceMethod yX8_settle ∈ rl_BW := (rl_b4 191 rfl rfl)
theorem VX8_settle : Cond.selects yX8_settle.cls yX8_settle yX8_settle ∈ rl_BW := rl_v 70 rfl rfl
theorem YX8_either : rl_Y rl_BW yX8_either cX8_either 5 none 3 := ⟨(rl_b4 184 rfl rfl), (rl_b1 8 rfl rfl), by decide +kernel⟩
theorem IX8_either : Cond.instanceMethod yX8_either ∈ rl_BW := (rl_b4 183 rfl rfl)
theorem VX8_either : Cond.selects yX8_either.cls yX8_either yX8_either ∈ rl_BW := rl_v 68 rfl rfl
theorem YX8_both : rl_Y rl_BW yX8_both cX8_both 10 none 3 := ⟨(rl_b4 221 rfl rfl), (rl_b1 8 rfl rfl), by decide +kernel⟩
theorem IX8_both : Cond.instanceMethod yX8_both ∈ rl_BW := (rl_b4 220 rfl rfl)
theorem VX8_both : Cond.selects yX8_both.cls yX8_both yX8_both ∈ rl_BW := rl_v 77 rfl rfl
theorem YX8_truth : rl_Y rl_BW yX8_truth cX8_truth 2 none 1 := ⟨(rl_b4 164 rfl rfl), (rl_b1 8 rfl rfl), by decide +kernel⟩
theorem IX8_truth : Cond.instanceMethod yX8_truth ∈ rl_BW := (rl_b4 163 rfl rfl)
theorem VX8_truth : Cond.selects yX8_truth.cls yX8_truth yX8_truth ∈ rl_BW := rl_v 63 rfl rfl
theorem YX8_copy : rl_Y rl_BW yX8_copy cX8_copy 4 none 2 := ⟨(rl_b4 201 rfl rfl), (rl_b1 8 rfl rfl), by decide +kernel⟩
theorem IX8_copy : Cond.instanceMethod yX8_copy ∈ rl_BW := (rl_b4 200 rfl rfl)
theorem VX8_copy : Cond.selects yX8_copy.cls yX8_copy yX8_copy ∈ rl_BW := rl_v 72 rfl rfl
theorem YX8_not : rl_Y rl_BW yX8_not cX8_not 12 none 2 := ⟨(rl_b4 233 rfl rfl), (rl_b1 8 rfl rfl), by decide +kernel⟩
theorem IX8_not : Cond.instanceMethod yX8_not ∈ rl_BW := (rl_b4 232 rfl rfl)
theorem VX8_not : Cond.selects yX8_not.cls yX8_not yX8_not ∈ rl_BW := rl_v 80 rfl rfl
theorem YX8_turn : rl_Y rl_BW yX8_turn cX8_turn 7 none 2 := ⟨(rl_b4 237 rfl rfl), (rl_b1 8 rfl rfl), by decide +kernel⟩
theorem IX8_turn : Cond.instanceMethod yX8_turn ∈ rl_BW := (rl_b4 236 rfl rfl)
theorem VX8_turn : Cond.selects yX8_turn.cls yX8_turn yX8_turn ∈ rl_BW := rl_v 81 rfl rfl
theorem YX8_source : rl_Y rl_BW yX8_source cX8_source 2 (some .int) 1 := ⟨(rl_b4 95 rfl rfl), (rl_b1 8 rfl rfl), by decide +kernel⟩
theorem IX8_source : Cond.instanceMethod yX8_source ∈ rl_BW := (rl_b4 93 rfl rfl)
theorem VX8_source : Cond.selects yX8_source.cls yX8_source yX8_source ∈ rl_BW := (rl_b4 94 rfl rfl)
theorem YX8_row : rl_Y rl_BW yX8_row cX8_row 6 (some .int) 5 := ⟨(rl_b4 99 rfl rfl), (rl_b1 8 rfl rfl), by decide +kernel⟩
theorem IX8_row : Cond.instanceMethod yX8_row ∈ rl_BW := (rl_b4 97 rfl rfl)
theorem VX8_row : Cond.selects yX8_row.cls yX8_row yX8_row ∈ rl_BW := (rl_b4 98 rfl rfl)
theorem YX8_isNode : rl_Y rl_BW yX8_isNode cX8_isNode 2 (some .boolean) 1 := ⟨(rl_b4 115 rfl rfl), (rl_b1 8 rfl rfl), by decide +kernel⟩
theorem IX8_isNode : Cond.instanceMethod yX8_isNode ∈ rl_BW := (rl_b4 114 rfl rfl)
theorem VX8_isNode : Cond.selects yX8_isNode.cls yX8_isNode yX8_isNode ∈ rl_BW := rl_v 58 rfl rfl
theorem YX8_isColumn : rl_Y rl_BW yX8_isColumn cX8_isColumn 3 (some .boolean) 2 := ⟨(rl_b4 119 rfl rfl), (rl_b1 8 rfl rfl), by decide +kernel⟩
theorem IX8_isColumn : Cond.instanceMethod yX8_isColumn ∈ rl_BW := (rl_b4 118 rfl rfl)
theorem VX8_isColumn : Cond.selects yX8_isColumn.cls yX8_isColumn yX8_isColumn ∈ rl_BW := rl_v 59 rfl rfl
theorem YX8_node : rl_Y rl_BW yX8_node cX8_node 9 (some .int) 8 := ⟨(rl_b4 107 rfl rfl), (rl_b1 8 rfl rfl), by decide +kernel⟩
theorem IX8_node : Cond.instanceMethod yX8_node ∈ rl_BW := (rl_b4 106 rfl rfl)
theorem VX8_node : Cond.selects yX8_node.cls yX8_node yX8_node ∈ rl_BW := rl_v 57 rfl rfl
theorem YX8_scan : rl_Y rl_BW yX8_scan cX8_scan 2 (some .int) 1 := ⟨(rl_b4 103 rfl rfl), (rl_b1 8 rfl rfl), by decide +kernel⟩
theorem IX8_scan : Cond.instanceMethod yX8_scan ∈ rl_BW := (rl_b4 101 rfl rfl)
theorem VX8_scan : Cond.selects yX8_scan.cls yX8_scan yX8_scan ∈ rl_BW := (rl_b4 102 rfl rfl)
theorem YX8_pick : rl_Y rl_BW yX8_pick cX8_pick 6 (some .int) 5 := ⟨(rl_b4 111 rfl rfl), (rl_b1 8 rfl rfl), by decide +kernel⟩
theorem IX8_pick : Cond.instanceMethod yX8_pick ∈ rl_BW := (rl_b4 109 rfl rfl)
theorem VX8_pick : Cond.selects yX8_pick.cls yX8_pick yX8_pick ∈ rl_BW := (rl_b4 110 rfl rfl)
theorem YX8_cols : rl_Y rl_BW yX8_cols cX8_cols 6 (some .int) 2 := ⟨(rl_b4 123 rfl rfl), (rl_b1 8 rfl rfl), by decide +kernel⟩
theorem IX8_cols : Cond.instanceMethod yX8_cols ∈ rl_BW := (rl_b4 121 rfl rfl)
theorem VX8_cols : Cond.selects yX8_cols.cls yX8_cols yX8_cols ∈ rl_BW := (rl_b4 122 rfl rfl)
theorem YX8_join : rl_Y rl_BW yX8_join cX8_join 6 (some .int) 4 := ⟨(rl_b4 128 rfl rfl), (rl_b1 8 rfl rfl), by decide +kernel⟩
theorem IX8_join : Cond.instanceMethod yX8_join ∈ rl_BW := (rl_b4 126 rfl rfl)
theorem VX8_join : Cond.selects yX8_join.cls yX8_join yX8_join ∈ rl_BW := (rl_b4 127 rfl rfl)
theorem YX8_pair : rl_Y rl_BW yX8_pair cX8_pair 4 (some .int) 3 := ⟨(rl_b4 136 rfl rfl), (rl_b1 8 rfl rfl), by decide +kernel⟩
theorem IX8_pair : Cond.instanceMethod yX8_pair ∈ rl_BW := (rl_b4 135 rfl rfl)
theorem VX8_pair : Cond.selects yX8_pair.cls yX8_pair yX8_pair ∈ rl_BW := rl_v 60 rfl rfl
theorem YX8_unite : rl_Y rl_BW yX8_unite cX8_unite 3 (some .int) 2 := ⟨(rl_b4 132 rfl rfl), (rl_b1 8 rfl rfl), by decide +kernel⟩
theorem IX8_unite : Cond.instanceMethod yX8_unite ∈ rl_BW := (rl_b4 130 rfl rfl)
theorem VX8_unite : Cond.selects yX8_unite.cls yX8_unite yX8_unite ∈ rl_BW := (rl_b4 131 rfl rfl)
theorem YX8_minus : rl_Y rl_BW yX8_minus cX8_minus 3 (some .int) 2 := ⟨(rl_b4 140 rfl rfl), (rl_b1 8 rfl rfl), by decide +kernel⟩
theorem IX8_minus : Cond.instanceMethod yX8_minus ∈ rl_BW := (rl_b4 138 rfl rfl)
theorem VX8_minus : Cond.selects yX8_minus.cls yX8_minus yX8_minus ∈ rl_BW := (rl_b4 139 rfl rfl)
theorem YX8_fold : rl_Y rl_BW yX8_fold cX8_fold 5 (some .int) 4 := ⟨(rl_b4 144 rfl rfl), (rl_b1 8 rfl rfl), by decide +kernel⟩
theorem IX8_fold : Cond.instanceMethod yX8_fold ∈ rl_BW := (rl_b4 142 rfl rfl)
theorem VX8_fold : Cond.selects yX8_fold.cls yX8_fold yX8_fold ∈ rl_BW := (rl_b4 143 rfl rfl)
theorem YX8_columns : rl_Y rl_BW yX8_columns cX8_columns 2 (some .int) 1 := ⟨(rl_b4 148 rfl rfl), (rl_b1 8 rfl rfl), by decide +kernel⟩
theorem IX8_columns : Cond.instanceMethod yX8_columns ∈ rl_BW := (rl_b4 146 rfl rfl)
theorem VX8_columns : Cond.selects yX8_columns.cls yX8_columns yX8_columns ∈ rl_BW := (rl_b4 147 rfl rfl)
theorem YX8_cellAt : rl_Y rl_BW yX8_cellAt cX8_cellAt 4 (some .int) 3 := ⟨(rl_b4 180 rfl rfl), (rl_b1 8 rfl rfl), by decide +kernel⟩
theorem IX8_cellAt : Cond.instanceMethod yX8_cellAt ∈ rl_BW := (rl_b4 179 rfl rfl)
theorem VX8_cellAt : Cond.selects yX8_cellAt.cls yX8_cellAt yX8_cellAt ∈ rl_BW := rl_v 67 rfl rfl
theorem YX8_against : rl_Y rl_BW yX8_against cX8_against 5 (some .int) 2 := ⟨(rl_b4 176 rfl rfl), (rl_b1 8 rfl rfl), by decide +kernel⟩
theorem IX8_against : Cond.instanceMethod yX8_against ∈ rl_BW := (rl_b4 175 rfl rfl)
theorem VX8_against : Cond.selects yX8_against.cls yX8_against yX8_against ∈ rl_BW := rl_v 66 rfl rfl
theorem YX8_find : rl_Y rl_BW yX8_find cX8_find 3 (some .int) 1 := ⟨(rl_b4 172 rfl rfl), (rl_b1 8 rfl rfl), by decide +kernel⟩
theorem IX8_find : Cond.instanceMethod yX8_find ∈ rl_BW := (rl_b4 171 rfl rfl)
theorem VX8_find : Cond.selects yX8_find.cls yX8_find yX8_find ∈ rl_BW := rl_v 65 rfl rfl
theorem YX8_comes : rl_Y rl_BW yX8_comes cX8_comes 6 none 2 := ⟨(rl_b4 168 rfl rfl), (rl_b1 8 rfl rfl), by decide +kernel⟩
theorem IX8_comes : Cond.instanceMethod yX8_comes ∈ rl_BW := (rl_b4 167 rfl rfl)
theorem VX8_comes : Cond.selects yX8_comes.cls yX8_comes yX8_comes ∈ rl_BW := rl_v 64 rfl rfl
theorem YX8_take : rl_Y rl_BW yX8_take cX8_take 5 none 3 := ⟨(rl_b4 209 rfl rfl), (rl_b1 8 rfl rfl), by decide +kernel⟩
theorem IX8_take : Cond.instanceMethod yX8_take ∈ rl_BW := (rl_b4 208 rfl rfl)
theorem VX8_take : Cond.selects yX8_take.cls yX8_take yX8_take ∈ rl_BW := rl_v 74 rfl rfl
theorem YX8_make : rl_Y rl_BW yX8_make cX8_make 4 none 1 := ⟨(rl_b4 156 rfl rfl), (rl_b1 8 rfl rfl), by decide +kernel⟩
theorem IX8_make : Cond.instanceMethod yX8_make ∈ rl_BW := (rl_b4 155 rfl rfl)
theorem VX8_make : Cond.selects yX8_make.cls yX8_make yX8_make ∈ rl_BW := rl_v 61 rfl rfl
theorem YX8_makeScan : rl_Y rl_BW yX8_makeScan cX8_makeScan 5 none 2 := ⟨(rl_b4 160 rfl rfl), (rl_b1 8 rfl rfl), by decide +kernel⟩
theorem IX8_makeScan : Cond.instanceMethod yX8_makeScan ∈ rl_BW := (rl_b4 159 rfl rfl)
theorem VX8_makeScan : Cond.selects yX8_makeScan.cls yX8_makeScan yX8_makeScan ∈ rl_BW := rl_v 62 rfl rfl
theorem YX8_makePick : rl_Y rl_BW yX8_makePick cX8_makePick 7 none 2 := ⟨(rl_b4 205 rfl rfl), (rl_b1 8 rfl rfl), by decide +kernel⟩
theorem IX8_makePick : Cond.instanceMethod yX8_makePick ∈ rl_BW := (rl_b4 204 rfl rfl)
theorem VX8_makePick : Cond.selects yX8_makePick.cls yX8_makePick yX8_makePick ∈ rl_BW := rl_v 73 rfl rfl
theorem YX8_makeCols : rl_Y rl_BW yX8_makeCols cX8_makeCols 6 none 2 := ⟨(rl_b4 213 rfl rfl), (rl_b1 8 rfl rfl), by decide +kernel⟩
theorem IX8_makeCols : Cond.instanceMethod yX8_makeCols ∈ rl_BW := (rl_b4 212 rfl rfl)
theorem VX8_makeCols : Cond.selects yX8_makeCols.cls yX8_makeCols yX8_makeCols ∈ rl_BW := rl_v 75 rfl rfl
theorem YX8_makeJoin : rl_Y rl_BW yX8_makeJoin cX8_makeJoin 7 none 3 := ⟨(rl_b4 217 rfl rfl), (rl_b1 8 rfl rfl), by decide +kernel⟩
theorem IX8_makeJoin : Cond.instanceMethod yX8_makeJoin ∈ rl_BW := (rl_b4 216 rfl rfl)
theorem VX8_makeJoin : Cond.selects yX8_makeJoin.cls yX8_makeJoin yX8_makeJoin ∈ rl_BW := rl_v 76 rfl rfl
theorem YX8_makeUnite : rl_Y rl_BW yX8_makeUnite cX8_makeUnite 4 none 2 := ⟨(rl_b4 225 rfl rfl), (rl_b1 8 rfl rfl), by decide +kernel⟩
theorem IX8_makeUnite : Cond.instanceMethod yX8_makeUnite ∈ rl_BW := (rl_b4 224 rfl rfl)
theorem VX8_makeUnite : Cond.selects yX8_makeUnite.cls yX8_makeUnite yX8_makeUnite ∈ rl_BW := rl_v 78 rfl rfl
theorem YX8_makeMinus : rl_Y rl_BW yX8_makeMinus cX8_makeMinus 7 none 3 := ⟨(rl_b4 229 rfl rfl), (rl_b1 8 rfl rfl), by decide +kernel⟩
theorem IX8_makeMinus : Cond.instanceMethod yX8_makeMinus ∈ rl_BW := (rl_b4 228 rfl rfl)
theorem VX8_makeMinus : Cond.selects yX8_makeMinus.cls yX8_makeMinus yX8_makeMinus ∈ rl_BW := rl_v 79 rfl rfl
theorem YX8_makeFold : rl_Y rl_BW yX8_makeFold cX8_makeFold 7 none 2 := ⟨(rl_b5 1 rfl rfl), (rl_b1 8 rfl rfl), by decide +kernel⟩
theorem IX8_makeFold : Cond.instanceMethod yX8_makeFold ∈ rl_BW := (rl_b5 0 rfl rfl)
theorem VX8_makeFold : Cond.selects yX8_makeFold.cls yX8_makeFold yX8_makeFold ∈ rl_BW := rl_v 82 rfl rfl
theorem YX8_makeGroup : rl_Y rl_BW yX8_makeGroup cX8_makeGroup 12 none 3 := ⟨(rl_b5 5 rfl rfl), (rl_b1 8 rfl rfl), by decide +kernel⟩
theorem IX8_makeGroup : Cond.instanceMethod yX8_makeGroup ∈ rl_BW := (rl_b5 4 rfl rfl)
theorem VX8_makeGroup : Cond.selects yX8_makeGroup.cls yX8_makeGroup yX8_makeGroup ∈ rl_BW := rl_v 83 rfl rfl
theorem YX8_run : rl_Y rl_BW yX8_run cX8_run 4 (some .int) 1 := ⟨(rl_b4 152 rfl rfl), (rl_b1 8 rfl rfl), by decide +kernel⟩
theorem IX8_run : Cond.instanceMethod yX8_run ∈ rl_BW := (rl_b4 150 rfl rfl)
theorem VX8_run : Cond.selects yX8_run.cls yX8_run yX8_run ∈ rl_BW := (rl_b4 151 rfl rfl)
theorem YX8_isTuple : rl_Y rl_BW yX8_isTuple cX8_isTuple 2 (some .boolean) 1 := ⟨(rl_b5 13 rfl rfl), (rl_b1 8 rfl rfl), by decide +kernel⟩
theorem IX8_isTuple : Cond.instanceMethod yX8_isTuple ∈ rl_BW := (rl_b5 12 rfl rfl)
theorem VX8_isTuple : Cond.selects yX8_isTuple.cls yX8_isTuple yX8_isTuple ∈ rl_BW := rl_v 84 rfl rfl
theorem YX8_cell : rl_Y rl_BW yX8_cell cX8_cell 3 (some .int) 2 := ⟨(rl_b5 9 rfl rfl), (rl_b1 8 rfl rfl), by decide +kernel⟩
theorem IX8_cell : Cond.instanceMethod yX8_cell ∈ rl_BW := (rl_b5 7 rfl rfl)
theorem VX8_cell : Cond.selects yX8_cell.cls yX8_cell yX8_cell ∈ rl_BW := (rl_b5 8 rfl rfl)
theorem YX8_ways : rl_Y rl_BW yX8_ways cX8_ways 2 (some .int) 1 := ⟨(rl_b5 17 rfl rfl), (rl_b1 8 rfl rfl), by decide +kernel⟩
theorem IX8_ways : Cond.instanceMethod yX8_ways ∈ rl_BW := (rl_b5 15 rfl rfl)
theorem VX8_ways : Cond.selects yX8_ways.cls yX8_ways yX8_ways ∈ rl_BW := (rl_b5 16 rfl rfl)
theorem YX8_way : rl_Y rl_BW yX8_way cX8_way 5 (some .long) 3 := ⟨(rl_b5 21 rfl rfl), (rl_b1 8 rfl rfl), by decide +kernel⟩
theorem IX8_way : Cond.instanceMethod yX8_way ∈ rl_BW := (rl_b5 19 rfl rfl)
theorem VX8_way : Cond.selects yX8_way.cls yX8_way yX8_way ∈ rl_BW := (rl_b5 20 rfl rfl)
theorem YX8_drop : rl_Y rl_BW yX8_drop cX8_drop 4 (some .int) 2 := ⟨(rl_b5 25 rfl rfl), (rl_b1 8 rfl rfl), by decide +kernel⟩
theorem IX8_drop : Cond.instanceMethod yX8_drop ∈ rl_BW := (rl_b5 23 rfl rfl)
theorem VX8_drop : Cond.selects yX8_drop.cls yX8_drop yX8_drop ∈ rl_BW := (rl_b5 24 rfl rfl)
theorem YX8_first : rl_Y rl_BW yX8_first cX8_first 6 (some .int) 2 := ⟨(rl_b5 37 rfl rfl), (rl_b1 8 rfl rfl), by decide +kernel⟩
theorem IX8_first : Cond.instanceMethod yX8_first ∈ rl_BW := (rl_b5 36 rfl rfl)
theorem VX8_first : Cond.selects yX8_first.cls yX8_first yX8_first ∈ rl_BW := rl_v 86 rfl rfl
theorem YX8_isSo : rl_Y rl_BW yX8_isSo cX8_isSo 4 (some .boolean) 2 := ⟨(rl_b5 33 rfl rfl), (rl_b1 8 rfl rfl), by decide +kernel⟩
theorem IX8_isSo : Cond.instanceMethod yX8_isSo ∈ rl_BW := (rl_b5 32 rfl rfl)
theorem VX8_isSo : Cond.selects yX8_isSo.cls yX8_isSo yX8_isSo ∈ rl_BW := rl_v 85 rfl rfl
theorem YX8_holds : rl_Y rl_BW yX8_holds cX8_holds 2 (some .int) 1 := ⟨(rl_b5 29 rfl rfl), (rl_b1 8 rfl rfl), by decide +kernel⟩
theorem IX8_holds : Cond.instanceMethod yX8_holds ∈ rl_BW := (rl_b5 27 rfl rfl)
theorem VX8_holds : Cond.selects yX8_holds.cls yX8_holds yX8_holds ∈ rl_BW := (rl_b5 28 rfl rfl)
theorem YX8_made : rl_Y rl_BW yX8_made cX8_made 2 (some .int) 1 := ⟨(rl_b5 41 rfl rfl), (rl_b1 8 rfl rfl), by decide +kernel⟩
theorem IX8_made : Cond.instanceMethod yX8_made ∈ rl_BW := (rl_b5 39 rfl rfl)
theorem VX8_made : Cond.selects yX8_made.cls yX8_made yX8_made ∈ rl_BW := (rl_b5 40 rfl rfl)
theorem YX8_under : rl_Y rl_BW yX8_under cX8_under 4 (some .int) 2 := ⟨(rl_b5 45 rfl rfl), (rl_b1 8 rfl rfl), by decide +kernel⟩
theorem IX8_under : Cond.instanceMethod yX8_under ∈ rl_BW := (rl_b5 43 rfl rfl)
theorem VX8_under : Cond.selects yX8_under.cls yX8_under yX8_under ∈ rl_BW := (rl_b5 44 rfl rfl)
theorem YX8_forward : rl_Y rl_BW yX8_forward cX8_forward 4 (some .int) 1 := ⟨(rl_b5 49 rfl rfl), (rl_b1 8 rfl rfl), by decide +kernel⟩
theorem IX8_forward : Cond.instanceMethod yX8_forward ∈ rl_BW := (rl_b5 47 rfl rfl)
theorem VX8_forward : Cond.selects yX8_forward.cls yX8_forward yX8_forward ∈ rl_BW := (rl_b5 48 rfl rfl)
theorem YX8_stand : rl_Y rl_BW yX8_stand cX8_stand 6 (some .boolean) 1 := ⟨(rl_b5 57 rfl rfl), (rl_b1 8 rfl rfl), by decide +kernel⟩
theorem IX8_stand : Cond.instanceMethod yX8_stand ∈ rl_BW := (rl_b5 56 rfl rfl)
theorem VX8_stand : Cond.selects yX8_stand.cls yX8_stand yX8_stand ∈ rl_BW := rl_v 87 rfl rfl
theorem YX8_rowsOf : rl_Y rl_BW yX8_rowsOf cX8_rowsOf 5 (some .long) 1 := ⟨(rl_b5 61 rfl rfl), (rl_b1 8 rfl rfl), by decide +kernel⟩
theorem IX8_rowsOf : Cond.instanceMethod yX8_rowsOf ∈ rl_BW := (rl_b5 60 rfl rfl)
theorem VX8_rowsOf : Cond.selects yX8_rowsOf.cls yX8_rowsOf yX8_rowsOf ∈ rl_BW := rl_v 88 rfl rfl
theorem YX8_count : rl_Y rl_BW yX8_count cX8_count 4 (some .int) 1 := ⟨(rl_b5 53 rfl rfl), (rl_b1 8 rfl rfl), by decide +kernel⟩
theorem IX8_count : Cond.instanceMethod yX8_count ∈ rl_BW := (rl_b5 51 rfl rfl)
theorem VX8_count : Cond.selects yX8_count.cls yX8_count yX8_count ∈ rl_BW := (rl_b5 52 rfl rfl)
theorem YX8_matters : rl_Y rl_BW yX8_matters cX8_matters 6 (some .int) 2 := ⟨(rl_b5 65 rfl rfl), (rl_b1 8 rfl rfl), by decide +kernel⟩
theorem IX8_matters : Cond.instanceMethod yX8_matters ∈ rl_BW := (rl_b5 63 rfl rfl)
theorem VX8_matters : Cond.selects yX8_matters.cls yX8_matters yX8_matters ∈ rl_BW := (rl_b5 64 rfl rfl)
theorem YX8_ones : rl_Y rl_BW yX8_ones cX8_ones 4 (some .int) 1 := ⟨(rl_b5 72 rfl rfl), (rl_b1 8 rfl rfl), by decide +kernel⟩
theorem SX8_ones : Cond.static yX8_ones ∈ rl_BW := (rl_b5 71 rfl rfl)
theorem YX8_blame : rl_Y rl_BW yX8_blame cX8_blame 8 (some .int) 1 := ⟨(rl_b5 69 rfl rfl), (rl_b1 8 rfl rfl), by decide +kernel⟩
theorem IX8_blame : Cond.instanceMethod yX8_blame ∈ rl_BW := (rl_b5 67 rfl rfl)
theorem VX8_blame : Cond.selects yX8_blame.cls yX8_blame yX8_blame ∈ rl_BW := (rl_b5 68 rfl rfl)
theorem YX8_told : rl_Y rl_BW yX8_told cX8_told 4 (some .int) 1 := ⟨(rl_b5 76 rfl rfl), (rl_b1 8 rfl rfl), by decide +kernel⟩
theorem IX8_told : Cond.instanceMethod yX8_told ∈ rl_BW := (rl_b5 74 rfl rfl)
theorem VX8_told : Cond.selects yX8_told.cls yX8_told yX8_told ∈ rl_BW := (rl_b5 75 rfl rfl)
theorem YX8_clear : rl_Y rl_BW yX8_clear cX8_clear 1 none 0 := ⟨(rl_b5 80 rfl rfl), (rl_b1 8 rfl rfl), by decide +kernel⟩
theorem IX8_clear : Cond.instanceMethod yX8_clear ∈ rl_BW := (rl_b5 78 rfl rfl)
theorem VX8_clear : Cond.selects yX8_clear.cls yX8_clear yX8_clear ∈ rl_BW := (rl_b5 79 rfl rfl)
theorem YJ13_bitCount_95d88 : rl_Y rl_BW yJ13_bitCount_95d88 cJ13_bitCount_95d88 2 (some .int) 1 := ⟨(rl_b3 74 rfl rfl), (rl_b1 17 rfl rfl), by decide +kernel⟩
theorem SJ13_bitCount_95d88 : Cond.static yJ13_bitCount_95d88 ∈ rl_BW := (rl_b3 73 rfl rfl)
theorem YJ9_max_7cf53 : rl_Y rl_BW yJ9_max_7cf53 cJ9_max_7cf53 2 (some .int) 2 := ⟨(rl_b2 70 rfl rfl), (rl_b1 10 rfl rfl), by decide +kernel⟩
theorem SJ9_max_7cf53 : Cond.static yJ9_max_7cf53 ∈ rl_BW := (rl_b2 69 rfl rfl)
theorem YJ9_min_7cf53 : rl_Y rl_BW yJ9_min_7cf53 cJ9_min_7cf53 2 (some .int) 2 := ⟨(rl_b2 64 rfl rfl), (rl_b1 10 rfl rfl), by decide +kernel⟩
theorem SJ9_min_7cf53 : Cond.static yJ9_min_7cf53 ∈ rl_BW := (rl_b2 63 rfl rfl)
