theorem z_pure_ok : z_pure := sorry
