theorem mm_try : True := trivial
