theorem zz_1 : True := trivial
