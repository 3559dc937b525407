theorem hold_38 : True := trivial
