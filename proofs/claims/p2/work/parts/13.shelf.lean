theorem t13 : True := trivial
