theorem pg_dummy : True := trivial
