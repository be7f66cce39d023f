theorem zk_M : xMi.all xMk = true := by decide +kernel
theorem zk_F : (xFi.zipIdx.all fun q => q.1.all (xFk q.2)) = true := by decide +kernel
