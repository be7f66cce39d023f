theorem zk_L : (xLnk.zipIdx.all fun q => q.1.all (xLk q.2)) = true := by decide +kernel
