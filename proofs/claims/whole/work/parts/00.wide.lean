/-- of arrays of longs: that the class is known goes over to a state alike -/
def zz_aoL (U : State) : Prop := (Cond.arrayOver (.array .long)).before #[] U = true
theorem zz_aoL.moved {u U : State} (hvm : u.vm.Alike U.vm) (h : zz_aoL u) : zz_aoL U := Jvm.Stand.arrayOver_alikeB hvm h
