theorem z_last0 : True := trivial
