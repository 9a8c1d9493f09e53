theorem z_54s_public : True := trivial
