theorem z_43b_model : True := trivial
