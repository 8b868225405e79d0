theorem z_pure_ok : z_pure := z_pure_is
