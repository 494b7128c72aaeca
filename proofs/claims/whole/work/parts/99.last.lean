theorem mz_dummy : True := trivial
