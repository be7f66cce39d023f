def xNd (q : vw_C) : Bool := decide (((List.range q.2.2).map fun k => (q.2.1 k).2.1).Nodup)
theorem zk_Nd : xcl.all xNd = true := by decide +kernel
