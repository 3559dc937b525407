theorem hold_40 : True := trivial
