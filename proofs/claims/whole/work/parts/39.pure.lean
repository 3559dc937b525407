theorem hold_39 : True := trivial
