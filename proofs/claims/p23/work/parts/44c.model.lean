theorem z_44c_model : True := trivial
