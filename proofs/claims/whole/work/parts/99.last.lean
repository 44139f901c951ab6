theorem i_dummy : True := trivial
