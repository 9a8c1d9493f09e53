theorem z_32_tokens : True := trivial
