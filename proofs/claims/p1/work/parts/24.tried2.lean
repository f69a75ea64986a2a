set_option maxRecDepth 100000 in
theorem ob_letter : (List.range 256).all (fun i0 => mm_chi 300 11 116 [some (.ref 100), some (.int (nI i0))] [some (.ref 138), some (.int (nI i0))]) = true := by decide +kernel
set_option maxRecDepth 100000 in
theorem ob_heaps : (List.range 25).all (fun i0 => (List.range 10).all (fun i1 => mm_chi 300 52 145 [some (.ref 100), some (.int (nI i0)), some (.int (nI i1)), none] [some (.ref 138), some (.int (nI i0)), some (.int (nI i1)), none])) = true := by decide +kernel
