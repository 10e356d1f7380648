/-! ===== variables counted ===== -/
theorem KT.nv {S : cS} {z : aS} (h : KT S z) : nV z ≤ 150 := h.1.2.2.2.2.2.2.2.2.1
