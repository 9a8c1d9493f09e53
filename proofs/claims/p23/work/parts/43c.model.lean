theorem z_43c_model : True := trivial
