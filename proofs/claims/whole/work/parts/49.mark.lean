theorem end_mark : True := trivial
