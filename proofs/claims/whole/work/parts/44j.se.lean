theorem fcmp_z {x : UInt64} (hx : vf_n64 x) : Op.cmpValue (FP.dcmp x x) .l = 0 := Jvm.RoadKit.dcmpV_self hx .l
