theorem lw_w3 : wsL_law[3]? = some (Cond.classLink RL 91 "[[I") := by decide +kernel
theorem lw_w4 : wsL_law[4]? = some (Cond.arrayClass .int) := by decide +kernel
theorem lw_w5 : wsL_law[5]? = some (Cond.methodLink RL 21 Lib.Math.min.name) := by decide +kernel
theorem lw_w6 : wsL_law[6]? = some (Cond.static Lib.Math.min.name) := by decide +kernel
theorem lw_w7 : wsL_law[7]? = some (Cond.initialized "java/lang/Math") := by decide +kernel
theorem lw_w8 : wsL_law[8]? = some (Cond.code Lib.Math.min.name Lib.Math.min.code 2 (some .int)) := by decide +kernel
theorem lw_w9 : wsL_law[9]? = some (Cond.methodLink RL 107 Lib.Math.max.name) := by decide +kernel
theorem lw_w10 : wsL_law[10]? = some (Cond.static Lib.Math.max.name) := by decide +kernel
theorem lw_w11 : wsL_law[11]? = some (Cond.code Lib.Math.max.name Lib.Math.max.code 2 (some .int)) := by decide +kernel
