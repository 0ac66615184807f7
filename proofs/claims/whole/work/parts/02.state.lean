theorem uar_first : True := trivial
