/-! the law -/
abbrev M_Law_law : q_M := (⟨"LensPathsLaw", "law", "([I)Z"⟩, code, 7, (some .boolean), "LensPathsLaw", [], false, 10, 232)
