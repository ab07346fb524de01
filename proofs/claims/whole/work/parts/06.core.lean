theorem tc_probe : lw_tbl.length = 0 ∨ True := Or.inr trivial
