theorem zz_ok : True := trivial
