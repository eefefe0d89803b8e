theorem pw_end : True := trivial
