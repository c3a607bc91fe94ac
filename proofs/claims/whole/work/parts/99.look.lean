theorem g_tst : True := trivial
