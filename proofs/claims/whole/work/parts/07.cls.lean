theorem cat_rf (r : Option Nat) : (va_rf r).category = 1 := by cases r <;> rfl
set_option maxRecDepth 100000 in
theorem c_Cd : cd_Cl 0 q_Cd t_Cd := ⟨rfl, by decide +kernel, by decide +kernel, by decide +kernel, by decide, by decide +kernel⟩
set_option maxRecDepth 100000 in
theorem c_Do : cd_Cl 1 q_Do t_Do := ⟨rfl, by decide +kernel, by decide +kernel, by decide +kernel, by decide, by decide +kernel⟩
set_option maxRecDepth 100000 in
theorem c_Ob : cd_Cl 2 q_Ob t_Ob := ⟨rfl, by decide +kernel, by decide +kernel, by decide +kernel, by decide, by decide +kernel⟩
set_option maxRecDepth 100000 in
theorem c_Fi : cd_Cl 3 q_Fi t_Fi := ⟨rfl, by decide +kernel, by decide +kernel, by decide +kernel, by decide, by decide +kernel⟩
set_option maxRecDepth 100000 in
theorem c_Ca : cd_Cl 4 q_Ca t_Ca := ⟨rfl, by decide +kernel, by decide +kernel, by decide +kernel, by decide, by decide +kernel⟩
set_option maxRecDepth 100000 in
theorem c_Re : cd_Cl 5 q_Re t_Re := ⟨rfl, by decide +kernel, by decide +kernel, by decide +kernel, by decide, by decide +kernel⟩
set_option maxRecDepth 100000 in
theorem c_Mo : cd_Cl 6 q_Mo t_Mo := ⟨rfl, by decide +kernel, by decide +kernel, by decide +kernel, by decide, by decide +kernel⟩
theorem pl_Cd : plainName "CapabilityDomains" = true ∧ "CapabilityDomains" ≠ "java/lang/invoke/MethodHandle" ∧ "CapabilityDomains" ≠ "java/lang/invoke/VarHandle" := by decide +kernel
theorem pl_Do : plainName "CapabilityDomains$Domain" = true ∧ "CapabilityDomains$Domain" ≠ "java/lang/invoke/MethodHandle" ∧ "CapabilityDomains$Domain" ≠ "java/lang/invoke/VarHandle" := by decide +kernel
theorem pl_Ob : plainName "CapabilityDomains$DomainObject" = true ∧ "CapabilityDomains$DomainObject" ≠ "java/lang/invoke/MethodHandle" ∧ "CapabilityDomains$DomainObject" ≠ "java/lang/invoke/VarHandle" := by decide +kernel
theorem pl_Fi : plainName "CapabilityDomains$Field" = true ∧ "CapabilityDomains$Field" ≠ "java/lang/invoke/MethodHandle" ∧ "CapabilityDomains$Field" ≠ "java/lang/invoke/VarHandle" := by decide +kernel
theorem pl_Ca : plainName "CapabilityDomains$Capability" = true ∧ "CapabilityDomains$Capability" ≠ "java/lang/invoke/MethodHandle" ∧ "CapabilityDomains$Capability" ≠ "java/lang/invoke/VarHandle" := by decide +kernel
theorem pl_Re : plainName "CapabilityDomains$Reach" = true ∧ "CapabilityDomains$Reach" ≠ "java/lang/invoke/MethodHandle" ∧ "CapabilityDomains$Reach" ≠ "java/lang/invoke/VarHandle" := by decide +kernel
theorem pl_Mo : plainName "CapabilityDomainsModel" = true ∧ "CapabilityDomainsModel" ≠ "java/lang/invoke/MethodHandle" ∧ "CapabilityDomainsModel" ≠ "java/lang/invoke/VarHandle" := by decide +kernel
theorem pl_La : plainName "CapabilityDomainsLaw" = true ∧ "CapabilityDomainsLaw" ≠ "java/lang/invoke/MethodHandle" ∧ "CapabilityDomainsLaw" ≠ "java/lang/invoke/VarHandle" := by decide +kernel
set_option maxRecDepth 100000 in
theorem ew_1 : cd_Ew 1 := by unfold cd_Ew; decide +kernel
set_option maxRecDepth 100000 in
theorem ew_2 : cd_Ew 2 := by unfold cd_Ew; decide +kernel
set_option maxRecDepth 100000 in
theorem ew_3 : cd_Ew 3 := by unfold cd_Ew; decide +kernel
set_option maxRecDepth 100000 in
theorem ew_4 : cd_Ew 4 := by unfold cd_Ew; decide +kernel
set_option maxRecDepth 100000 in
theorem ew_5 : cd_Ew 5 := by unfold cd_Ew; decide +kernel
set_option maxRecDepth 100000 in
theorem ew_6 : cd_Ew 6 := by unfold cd_Ew; decide +kernel
theorem ss_Cd_34 : ("CapabilityDomains", 34, "all domains were made") ∈ cd_str := List.mem_of_getElem? (i := 0) rfl
theorem ss_Cd_251 : ("CapabilityDomains", 251, "no such domain") ∈ cd_str := List.mem_of_getElem? (i := 1) rfl
theorem ss_Cd_253 : ("CapabilityDomains", 253, "the domain has ended") ∈ cd_str := List.mem_of_getElem? (i := 2) rfl
theorem ss_Cd_50 : ("CapabilityDomains", 50, "the domain is full") ∈ cd_str := List.mem_of_getElem? (i := 3) rfl
theorem ss_Cd_104 : ("CapabilityDomains", 104, "no such object") ∈ cd_str := List.mem_of_getElem? (i := 4) rfl
theorem ss_Cd_255 : ("CapabilityDomains", 255, "no such field") ∈ cd_str := List.mem_of_getElem? (i := 5) rfl
theorem ss_Cd_75 : ("CapabilityDomains", 75, "no such object to link to") ∈ cd_str := List.mem_of_getElem? (i := 6) rfl
theorem ss_Cd_86 : ("CapabilityDomains", 86, "no such slot") ∈ cd_str := List.mem_of_getElem? (i := 7) rfl
theorem ss_Cd_257 : ("CapabilityDomains", 257, "the slot is empty") ∈ cd_str := List.mem_of_getElem? (i := 8) rfl
theorem ss_Cd_244 : ("CapabilityDomains", 244, "no such domain or slot") ∈ cd_str := List.mem_of_getElem? (i := 9) rfl
theorem ss_Cd_247 : ("CapabilityDomains", 247, "rights or uses out of range") ∈ cd_str := List.mem_of_getElem? (i := 10) rfl
theorem ss_Cd_249 : ("CapabilityDomains", 249, "all capabilities were made") ∈ cd_str := List.mem_of_getElem? (i := 11) rfl
theorem ss_Cd_120 : ("CapabilityDomains", 120, "the capability is dead") ∈ cd_str := List.mem_of_getElem? (i := 12) rfl
theorem ss_Cd_127 : ("CapabilityDomains", 127, "the parent lacks a right") ∈ cd_str := List.mem_of_getElem? (i := 13) rfl
theorem ss_Cd_141 : ("CapabilityDomains", 141, "only the home revokes") ∈ cd_str := List.mem_of_getElem? (i := 14) rfl
theorem ss_Cd_262 : ("CapabilityDomains", 262, "the capability is dead or used up") ∈ cd_str := List.mem_of_getElem? (i := 15) rfl
theorem ss_Cd_264 : ("CapabilityDomains", 264, "the capability lacks the right") ∈ cd_str := List.mem_of_getElem? (i := 16) rfl
theorem ss_Cd_161 : ("CapabilityDomains", 161, "the field holds no int") ∈ cd_str := List.mem_of_getElem? (i := 17) rfl
theorem ss_Cd_169 : ("CapabilityDomains", 169, "no such object to pass") ∈ cd_str := List.mem_of_getElem? (i := 18) rfl
theorem ss_Cd_178 : ("CapabilityDomains", 178, "the home has no room for the copies") ∈ cd_str := List.mem_of_getElem? (i := 19) rfl
theorem ss_Cd_192 : ("CapabilityDomains", 192, "the field holds no capability") ∈ cd_str := List.mem_of_getElem? (i := 20) rfl
