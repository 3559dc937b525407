theorem hold_37 : True := trivial
