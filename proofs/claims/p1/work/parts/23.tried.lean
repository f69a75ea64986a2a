set_option maxRecDepth 100000 in
theorem ob_kingdom : mm_chi 900 14 118 [some (.ref 100), none] [some (.ref 138), none, none, none, none, none] = true := by decide +kernel
set_option maxRecDepth 100000 in
theorem ob_cell : (List.range 25).all (fun i0 => (List.range 2).all (fun i1 => mm_chi 300 50 143 [some (.ref 100), some (.int (nI i0)), some (.int (nI i1))] [some (.ref 138), some (.int (nI i0)), some (.int (nI i1))])) = true := by decide +kernel
set_option maxRecDepth 100000 in
theorem ob_pushing : (List.range 3).all (fun i0 => mm_chi 300 51 144 [some (.ref 100), some (.int (nI i0))] [some (.ref 138), some (.int (nI i0)), none, none]) = true := by decide +kernel
set_option maxRecDepth 100000 in
theorem ob_kerbs : (List.range 25).all (fun i0 => mm_chi 300 53 148 [some (.ref 100), some (.int (nI i0))] [some (.ref 138), some (.int (nI i0))]) = true := by decide +kernel
set_option maxRecDepth 100000 in
theorem ob_stands : (List.range 25).all (fun i0 => mm_chi 300 54 149 [some (.ref 100), some (.int (nI i0)), none] [some (.ref 138), some (.int (nI i0))]) = true := by decide +kernel
set_option maxRecDepth 100000 in
theorem ob_goal : (List.range 25).all (fun i0 => mm_chi 300 55 150 [some (.ref 100), some (.int (nI i0)), none] [some (.ref 138), some (.int (nI i0))]) = true := by decide +kernel
set_option maxRecDepth 100000 in
theorem ob_weighs : (List.range 21).all (fun i0 => mm_chi 300 56 151 [some (.ref 100), some (.int (nI i0)), none] [some (.ref 138), some (.int (nI i0)), none]) = true := by decide +kernel
set_option maxRecDepth 100000 in
theorem ob_stuck : mm_chi 2000 72 164 [some (.ref 100), none, none, none, none] [some (.ref 138), none, none, none] = true := by decide +kernel
set_option maxRecDepth 100000 in
theorem ob_push : mm_chi 2000 75 166 [some (.ref 100), none, none] [some (.ref 138), none, none, none, none] = true := by decide +kernel
set_option maxRecDepth 100000 in
theorem ob_take : mm_chi 2000 78 171 [some (.ref 100), none, none] [some (.ref 138), none, none, none, none] = true := by decide +kernel
set_option maxRecDepth 100000 in
theorem ob_far : (List.range 4).all (fun i0 => mm_chi 3000 84 176 [some (.ref 100), some (.int (nI i0))] [some (.ref 138), some (.int (nI i0)), none, none, none, none, none]) = true := by decide +kernel
set_option maxRecDepth 100000 in
theorem ob_easy : (List.range 3).all (fun i0 => mm_chi 300 88 180 [some (.ref 100), some (.int (nI i0))] [some (.ref 138), some (.int (nI i0)), none, none, none]) = true := by decide +kernel
set_option maxRecDepth 100000 in
theorem ob_mean : (List.range 2).all (fun i0 => mm_chl 2000 101 188 [some (.ref 100), some (.int (nI i0)), none, none] [some (.ref 138), some (.int (nI i0)), none, none, none]) = true := by decide +kernel
set_option maxRecDepth 100000 in
theorem ob_whoPushed : (List.range 2).all (fun i0 => mm_chi 300 102 189 [some (.ref 100), some (.int (nI i0))] [some (.ref 138), some (.int (nI i0)), none, none]) = true := by decide +kernel
set_option maxRecDepth 100000 in
theorem ob_row : (List.range 100).all (fun i0 => mm_chi 300 106 191 [some (.ref 100), some (.int (nI i0))] [some (.ref 138), some (.int (nI i0)), none]) = true := by decide +kernel
set_option maxRecDepth 100000 in
theorem ob_judge : mm_chi 300 107 192 [some (.ref 100), none, none] [some (.ref 138), none, none] = true := by decide +kernel
set_option maxRecDepth 100000 in
theorem ob_clear : mm_chi 300 108 193 [some (.ref 100), none] [some (.ref 138), none] = true := by decide +kernel
set_option maxRecDepth 100000 in
theorem ob_image : mm_chi 1000 112 196 [some (.ref 100)] [some (.ref 138)] = true := by decide +kernel
set_option maxRecDepth 100000 in
theorem ob_on : mm_chi 300 113 197 [some (.ref 100)] [some (.ref 138)] = true := by decide +kernel
set_option maxRecDepth 100000 in
theorem ob_count : (List.range 8).all (fun i0 => mm_chi 300 114 198 [some (.ref 100), some (.int (nI i0))] [some (.ref 138), some (.int (nI i0))]) = true := by decide +kernel
set_option maxRecDepth 100000 in
theorem ob_count_11 : (List.range 6).all (fun i0 => mm_chi 300 114 198 [some (.ref 100), some (.int (nI (11 + i0)))] [some (.ref 138), some (.int (nI (11 + i0)))]) = true := by decide +kernel
