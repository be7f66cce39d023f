theorem zk_C : (xCi.zipIdx.all fun q => q.1.all (xCk q.2)) = true := by decide +kernel
theorem zk_Kc : (xKci.zipIdx.all fun q => q.1.all (xKck q.2)) = true := by decide +kernel
theorem zk_Kl : (xKli.zipIdx.all fun q => q.1.all (xKlk q.2)) = true := by decide +kernel
theorem zk_yF : (yFi.zipIdx.all fun q => q.1.all (yFk q.2)) = true := by decide +kernel
theorem zk_yG0 : ((yGi .null).zipIdx.all fun q => q.1.all (yGk q.2)) = true := by decide +kernel
theorem zk_yG1 : ((yGi (.ref 2000000)).zipIdx.all fun q => q.1.all (yGk q.2)) = true := by decide +kernel
def xCw (ci : Nat) (q : vw_C) : Bool := decide ((u_ws q.1 q.2.1 q.2.2).map some = (xWi.getD ci []).map xg)
def xCt (q : vw_C) : Bool := (List.range q.2.2).all fun k => (parseFieldDescriptor (q.2.1 k).2.2.1).isSome
theorem zk_Cw : (xcl.zipIdx.all fun q => xCw q.2 q.1) = true := by decide +kernel
theorem zk_Ct : xcl.all xCt = true := by decide +kernel
theorem zk_Nm : (xcl.zipIdx.all fun q => decide (q.1.1 = xnmF q.2)) = true := by decide +kernel
