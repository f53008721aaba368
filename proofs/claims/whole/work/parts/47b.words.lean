/-! words of the throw and the catch (wip/gen_law.py) -/
theorem tw_aeI : (Cond.initialized "java/lang/ArithmeticException") ∈ tW := tw_in 10 (by decide +kernel) (by decide +kernel)
theorem tw_lh : (Cond.codeWith y_L_height method_3_code 4 (some .int) [(0, 8, 11, 13)]) ∈ tW := tw_in 309 (by decide +kernel) (by decide +kernel)
theorem tw_aeC : (Cond.classLink R_L 13 "java/lang/ArithmeticException") ∈ tW := tw_in 310 (by decide +kernel) (by decide +kernel)
theorem tw_aeL : (Cond.classLink R_K 99 "java/lang/ArithmeticException") ∈ tW := tw_in 315 (by decide +kernel) (by decide +kernel)
