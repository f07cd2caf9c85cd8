theorem look_1 : True := trivial
