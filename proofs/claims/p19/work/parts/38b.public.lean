theorem z_38b_public : True := trivial
