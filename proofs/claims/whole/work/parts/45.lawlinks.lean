/-! ===== the words of the law's calls ===== -/
theorem wcL_set : Cond.codeWith yL_set cL_set 6 (some .int) hh_set ∈ kwl := by decide +kernel
theorem wlL_set : Cond.methodLink RL 64 yL_set ∈ kwl := by decide +kernel
theorem wsL_set : Cond.static yL_set ∈ kwl := by decide +kernel
theorem wgL_set : (parseMethodDescriptor yL_set.desc).map (fun d => d.parameters.length) = some 5 := by decide +kernel
theorem wcL_setRain : Cond.codeWith yL_setRain cL_setRain 5 (some .int) hh_setRain ∈ kwl := by decide +kernel
theorem wlL_setRain : Cond.methodLink RL 74 yL_setRain ∈ kwl := by decide +kernel
theorem wsL_setRain : Cond.static yL_setRain ∈ kwl := by decide +kernel
theorem wgL_setRain : (parseMethodDescriptor yL_setRain.desc).map (fun d => d.parameters.length) = some 4 := by decide +kernel
theorem wcL_spill : Cond.codeWith yL_spill cL_spill 5 (some .int) hh_spill ∈ kwl := by decide +kernel
theorem wlL_spill : Cond.methodLink RL 78 yL_spill ∈ kwl := by decide +kernel
theorem wsL_spill : Cond.static yL_spill ∈ kwl := by decide +kernel
theorem wgL_spill : (parseMethodDescriptor yL_spill.desc).map (fun d => d.parameters.length) = some 4 := by decide +kernel
theorem wcL_come : Cond.codeWith yL_come cL_come 5 (some .int) hh_come ∈ kwl := by decide +kernel
theorem wlL_come : Cond.methodLink RL 81 yL_come ∈ kwl := by decide +kernel
theorem wsL_come : Cond.static yL_come ∈ kwl := by decide +kernel
theorem wgL_come : (parseMethodDescriptor yL_come.desc).map (fun d => d.parameters.length) = some 4 := by decide +kernel
theorem wcL_send : Cond.codeWith yL_send cL_send 5 (some .int) hh_send ∈ kwl := by decide +kernel
theorem wlL_send : Cond.methodLink RL 84 yL_send ∈ kwl := by decide +kernel
theorem wsL_send : Cond.static yL_send ∈ kwl := by decide +kernel
theorem wgL_send : (parseMethodDescriptor yL_send.desc).map (fun d => d.parameters.length) = some 4 := by decide +kernel
theorem wcL_buy : Cond.codeWith yL_buy cL_buy 4 (some .int) hh_buy ∈ kwl := by decide +kernel
theorem wlL_buy : Cond.methodLink RL 87 yL_buy ∈ kwl := by decide +kernel
theorem wsL_buy : Cond.static yL_buy ∈ kwl := by decide +kernel
theorem wgL_buy : (parseMethodDescriptor yL_buy.desc).map (fun d => d.parameters.length) = some 3 := by decide +kernel
theorem wcL_sweeper : Cond.codeWith yL_sweeper cL_sweeper 5 (some .int) hh_sweeper ∈ kwl := by decide +kernel
theorem wlL_sweeper : Cond.methodLink RL 91 yL_sweeper ∈ kwl := by decide +kernel
theorem wsL_sweeper : Cond.static yL_sweeper ∈ kwl := by decide +kernel
theorem wgL_sweeper : (parseMethodDescriptor yL_sweeper.desc).map (fun d => d.parameters.length) = some 4 := by decide +kernel
theorem wcL_crossing : Cond.codeWith yL_crossing cL_crossing 5 (some .int) hh_crossing ∈ kwl := by decide +kernel
theorem wlL_crossing : Cond.methodLink RL 94 yL_crossing ∈ kwl := by decide +kernel
theorem wsL_crossing : Cond.static yL_crossing ∈ kwl := by decide +kernel
theorem wgL_crossing : (parseMethodDescriptor yL_crossing.desc).map (fun d => d.parameters.length) = some 4 := by decide +kernel
theorem wcL_count : Cond.codeWith yL_count cL_count 4 (some .int) hh_count ∈ kwl := by decide +kernel
theorem wlL_count : Cond.methodLink RL 97 yL_count ∈ kwl := by decide +kernel
theorem wsL_count : Cond.static yL_count ∈ kwl := by decide +kernel
theorem wgL_count : (parseMethodDescriptor yL_count.desc).map (fun d => d.parameters.length) = some 3 := by decide +kernel
theorem wcL_pass : Cond.codeWith yL_pass cL_pass 4 (some .int) hh_pass ∈ kwl := by decide +kernel
theorem wlL_pass : Cond.methodLink RL 100 yL_pass ∈ kwl := by decide +kernel
theorem wsL_pass : Cond.static yL_pass ∈ kwl := by decide +kernel
theorem wgL_pass : (parseMethodDescriptor yL_pass.desc).map (fun d => d.parameters.length) = some 3 := by decide +kernel
theorem wcL_way : Cond.codeWith yL_way cL_way 5 (some .int) hh_way ∈ kwl := by decide +kernel
theorem wlL_way : Cond.methodLink RL 103 yL_way ∈ kwl := by decide +kernel
theorem wsL_way : Cond.static yL_way ∈ kwl := by decide +kernel
theorem wgL_way : (parseMethodDescriptor yL_way.desc).map (fun d => d.parameters.length) = some 4 := by decide +kernel
theorem wcL_earns : Cond.codeWith yL_earns cL_earns 5 (some .int) hh_earns ∈ kwl := by decide +kernel
theorem wlL_earns : Cond.methodLink RL 106 yL_earns ∈ kwl := by decide +kernel
theorem wsL_earns : Cond.static yL_earns ∈ kwl := by decide +kernel
theorem wgL_earns : (parseMethodDescriptor yL_earns.desc).map (fun d => d.parameters.length) = some 4 := by decide +kernel
theorem wcL_advise : Cond.codeWith yL_advise cL_advise 5 (some .int) hh_advise ∈ kwl := by decide +kernel
theorem wlL_advise : Cond.methodLink RL 109 yL_advise ∈ kwl := by decide +kernel
theorem wsL_advise : Cond.static yL_advise ∈ kwl := by decide +kernel
theorem wgL_advise : (parseMethodDescriptor yL_advise.desc).map (fun d => d.parameters.length) = some 4 := by decide +kernel
theorem wcL_foresee : Cond.codeWith yL_foresee cL_foresee 5 (some .int) hh_foresee ∈ kwl := by decide +kernel
theorem wlL_foresee : Cond.methodLink RL 112 yL_foresee ∈ kwl := by decide +kernel
theorem wsL_foresee : Cond.static yL_foresee ∈ kwl := by decide +kernel
theorem wgL_foresee : (parseMethodDescriptor yL_foresee.desc).map (fun d => d.parameters.length) = some 4 := by decide +kernel
theorem wiL : Cond.initialized RL ∈ kwl := by decide +kernel
theorem wnL : RL ≠ "java/lang/invoke/MethodHandle" ∧ RL ≠ "java/lang/invoke/VarHandle" := by decide
