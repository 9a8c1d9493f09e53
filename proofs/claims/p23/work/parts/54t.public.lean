theorem z_54t_public : True := trivial
