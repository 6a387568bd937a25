theorem tail_ok : True := trivial
