theorem ws_182 : (182, "no such sample") ∈ z_str := by decide +kernel
theorem ws_76 : (76, "a rectangle is at least 1 wide and 1 high") ∈ z_str := by decide +kernel
theorem ws_87 : (87, "noise is 0 .. 100") ∈ z_str := by decide +kernel
theorem ws_89 : (89, "a gap is 0 .. 24") ∈ z_str := by decide +kernel
theorem ws_177 : (177, "the page was not parted, or changed since") ∈ z_str := by decide +kernel
theorem ws_185 : (185, "there is none of this number") ∈ z_str := by decide +kernel
theorem ws_187 : (187, "nothing is told by this number") ∈ z_str := by decide +kernel
