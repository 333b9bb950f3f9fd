theorem xM1_ok : xM1.all (xGMb "java/lang/Math") = true := rfl
