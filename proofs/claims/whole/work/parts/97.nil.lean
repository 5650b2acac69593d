theorem nil_97 : True := trivial
