theorem mi_z : True := trivial
