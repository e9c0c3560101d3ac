/-! a quotient of two ints is a number (this part goes first: its names are the long library's, so a round that must know them is read over that library from its beginning) -/
theorem nn_div (x y : Int32) (h : y ≠ 0) : vf_n64 (FP.ddiv (FP.i2d x) (FP.i2d y)) := Jvm.Free.Fl.ddiv_out (Jvm.Free.Fl.i2d_fin x).noNaN (Jvm.Free.Fl.i2d_fin y) (Jvm.Free.Fl.i2d_nz h)
