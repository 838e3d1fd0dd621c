/-! THE TAPE, and the told term: rows of a label of their own -/
theorem ob_112 : ob 11 2 := show 2 ∈ ob_L 11 by decide
theorem ob_1146 : ob 11 46 := show 46 ∈ ob_L 11 by decide
