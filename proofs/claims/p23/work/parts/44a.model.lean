theorem z_44a_model : True := trivial
