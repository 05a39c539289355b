theorem x_nothing : True := trivial
