theorem ae_trivial : True := trivial
