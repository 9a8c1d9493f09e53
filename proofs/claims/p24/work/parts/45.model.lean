theorem z_45_model : True := trivial
