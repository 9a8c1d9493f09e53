theorem z_44b_model : True := trivial
