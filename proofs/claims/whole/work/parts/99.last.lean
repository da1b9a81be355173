-- marker
theorem zz_mark : True := trivial
