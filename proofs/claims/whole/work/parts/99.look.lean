theorem zlook : True := trivial
