theorem end_9 : True := trivial
