section
-- ===== PART A: goes FIRST, ahead of the names: the tables' words, and 'selects' of the private methods out of them =====
/-- a private method of a class that the tables say can be made, by its rows of tables_1 -/
def lw_okq (q : MethodName × Nat) : Prop := (q.1.cls ≠ "java/lang/invoke/MethodHandle" ∧ q.1.cls ≠ "java/lang/invoke/VarHandle") ∧ Cond.instantiable q.1.cls q.2 ∈ tables_1 ∧ Cond.privateMethod q.1 ∈ tables_1 ∧ Cond.instanceMethod q.1 ∈ tables_1
theorem lw_p0 : lw_okq (⟨"CapabilityDomains", "isField", "(III)Z"⟩, 5) := ⟨⟨by decide +kernel, by decide +kernel⟩, List.mem_of_getElem? (i := 18) (by decide +kernel), List.mem_of_getElem? (i := 76) (by decide +kernel), List.mem_of_getElem? (i := 77) (by decide +kernel)⟩
theorem lw_p1 : lw_okq (⟨"CapabilityDomains", "isDomain", "(I)Z"⟩, 5) := ⟨⟨by decide +kernel, by decide +kernel⟩, List.mem_of_getElem? (i := 18) (by decide +kernel), List.mem_of_getElem? (i := 80) (by decide +kernel), List.mem_of_getElem? (i := 81) (by decide +kernel)⟩
theorem lw_p2 : lw_okq (⟨"CapabilityDomains", "livingDomains", "()I"⟩, 5) := ⟨⟨by decide +kernel, by decide +kernel⟩, List.mem_of_getElem? (i := 18) (by decide +kernel), List.mem_of_getElem? (i := 107) (by decide +kernel), List.mem_of_getElem? (i := 108) (by decide +kernel)⟩
theorem lw_p3 : lw_okq (⟨"CapabilityDomains", "livingCapabilities", "()I"⟩, 5) := ⟨⟨by decide +kernel, by decide +kernel⟩, List.mem_of_getElem? (i := 18) (by decide +kernel), List.mem_of_getElem? (i := 111) (by decide +kernel), List.mem_of_getElem? (i := 112) (by decide +kernel)⟩
theorem lw_p4 : lw_okq (⟨"CapabilityDomains", "objectsOf", "(I)I"⟩, 5) := ⟨⟨by decide +kernel, by decide +kernel⟩, List.mem_of_getElem? (i := 18) (by decide +kernel), List.mem_of_getElem? (i := 115) (by decide +kernel), List.mem_of_getElem? (i := 116) (by decide +kernel)⟩
theorem lw_p5 : lw_okq (⟨"java/lang/Throwable", "fillInStackTrace", "(I)Ljava/lang/Throwable;"⟩, 6) := ⟨⟨by decide +kernel, by decide +kernel⟩, List.mem_of_getElem? (i := 172) (by decide +kernel), List.mem_of_getElem? (i := 170) (by decide +kernel), List.mem_of_getElem? (i := 171) (by decide +kernel)⟩
theorem lw_p6 : lw_okq (⟨"CapabilityDomains", "livingDomain", "(I)LCapabilityDomains$Domain;"⟩, 5) := ⟨⟨by decide +kernel, by decide +kernel⟩, List.mem_of_getElem? (i := 18) (by decide +kernel), List.mem_of_getElem? (i := 273) (by decide +kernel), List.mem_of_getElem? (i := 274) (by decide +kernel)⟩
theorem lw_p7 : lw_okq (⟨"CapabilityDomains", "requireSlot", "(II)V"⟩, 5) := ⟨⟨by decide +kernel, by decide +kernel⟩, List.mem_of_getElem? (i := 18) (by decide +kernel), List.mem_of_getElem? (i := 402) (by decide +kernel), List.mem_of_getElem? (i := 403) (by decide +kernel)⟩
theorem lw_p8 : lw_okq (⟨"CapabilityDomains", "requireCapabilityLeft", "()V"⟩, 5) := ⟨⟨by decide +kernel, by decide +kernel⟩, List.mem_of_getElem? (i := 18) (by decide +kernel), List.mem_of_getElem? (i := 411) (by decide +kernel), List.mem_of_getElem? (i := 412) (by decide +kernel)⟩
theorem lw_p9 : lw_okq (⟨"CapabilityDomains", "putNew", "(LCapabilityDomains$Capability;LCapabilityDomains$Domain;I)I"⟩, 5) := ⟨⟨by decide +kernel, by decide +kernel⟩, List.mem_of_getElem? (i := 18) (by decide +kernel), List.mem_of_getElem? (i := 448) (by decide +kernel), List.mem_of_getElem? (i := 449) (by decide +kernel)⟩
theorem lw_p10 : lw_okq (⟨"CapabilityDomains", "spreadDeath", "()I"⟩, 5) := ⟨⟨by decide +kernel, by decide +kernel⟩, List.mem_of_getElem? (i := 18) (by decide +kernel), List.mem_of_getElem? (i := 500) (by decide +kernel), List.mem_of_getElem? (i := 501) (by decide +kernel)⟩
theorem lw_p11 : lw_okq (⟨"CapabilityDomains", "usable", "(III)LCapabilityDomains$Capability;"⟩, 5) := ⟨⟨by decide +kernel, by decide +kernel⟩, List.mem_of_getElem? (i := 18) (by decide +kernel), List.mem_of_getElem? (i := 516) (by decide +kernel), List.mem_of_getElem? (i := 517) (by decide +kernel)⟩
theorem lw_p12 : lw_okq (⟨"CapabilityDomains$Reach", "comeTo", "(II)V"⟩, 5) := ⟨⟨by decide +kernel, by decide +kernel⟩, List.mem_of_getElem? (i := 30) (by decide +kernel), List.mem_of_getElem? (i := 557) (by decide +kernel), List.mem_of_getElem? (i := 558) (by decide +kernel)⟩
theorem lw_p13 : lw_okq (⟨"CapabilityDomains$Reach", "copyFields", "(LCapabilityDomains$DomainObject;LCapabilityDomains$DomainObject;)V"⟩, 5) := ⟨⟨by decide +kernel, by decide +kernel⟩, List.mem_of_getElem? (i := 30) (by decide +kernel), List.mem_of_getElem? (i := 568) (by decide +kernel), List.mem_of_getElem? (i := 569) (by decide +kernel)⟩
theorem lw_p14 : lw_okq (⟨"CapabilityDomainsModel", "fail", "(I)I"⟩, 18) := ⟨⟨by decide +kernel, by decide +kernel⟩, List.mem_of_getElem? (i := 610) (by decide +kernel), List.mem_of_getElem? (i := 679) (by decide +kernel), List.mem_of_getElem? (i := 680) (by decide +kernel)⟩
theorem lw_p15 : lw_okq (⟨"CapabilityDomainsModel", "fine", "(I)I"⟩, 18) := ⟨⟨by decide +kernel, by decide +kernel⟩, List.mem_of_getElem? (i := 610) (by decide +kernel), List.mem_of_getElem? (i := 683) (by decide +kernel), List.mem_of_getElem? (i := 684) (by decide +kernel)⟩
def lw_privs_1 : List (MethodName × Nat) := [(⟨"CapabilityDomains", "isField", "(III)Z"⟩, 5), (⟨"CapabilityDomains", "isDomain", "(I)Z"⟩, 5), (⟨"CapabilityDomains", "livingDomains", "()I"⟩, 5), (⟨"CapabilityDomains", "livingCapabilities", "()I"⟩, 5), (⟨"CapabilityDomains", "objectsOf", "(I)I"⟩, 5), (⟨"java/lang/Throwable", "fillInStackTrace", "(I)Ljava/lang/Throwable;"⟩, 6), (⟨"CapabilityDomains", "livingDomain", "(I)LCapabilityDomains$Domain;"⟩, 5), (⟨"CapabilityDomains", "requireSlot", "(II)V"⟩, 5), (⟨"CapabilityDomains", "requireCapabilityLeft", "()V"⟩, 5), (⟨"CapabilityDomains", "putNew", "(LCapabilityDomains$Capability;LCapabilityDomains$Domain;I)I"⟩, 5), (⟨"CapabilityDomains", "spreadDeath", "()I"⟩, 5), (⟨"CapabilityDomains", "usable", "(III)LCapabilityDomains$Capability;"⟩, 5), (⟨"CapabilityDomains$Reach", "comeTo", "(II)V"⟩, 5), (⟨"CapabilityDomains$Reach", "copyFields", "(LCapabilityDomains$DomainObject;LCapabilityDomains$DomainObject;)V"⟩, 5), (⟨"CapabilityDomainsModel", "fail", "(I)I"⟩, 18), (⟨"CapabilityDomainsModel", "fine", "(I)I"⟩, 18)]
theorem lw_r1 : ∀ q ∈ lw_privs_1, lw_okq q := List.forall_mem_cons.mpr ⟨lw_p0, List.forall_mem_cons.mpr ⟨lw_p1, List.forall_mem_cons.mpr ⟨lw_p2, List.forall_mem_cons.mpr ⟨lw_p3, List.forall_mem_cons.mpr ⟨lw_p4, List.forall_mem_cons.mpr ⟨lw_p5, List.forall_mem_cons.mpr ⟨lw_p6, List.forall_mem_cons.mpr ⟨lw_p7, List.forall_mem_cons.mpr ⟨lw_p8, List.forall_mem_cons.mpr ⟨lw_p9, List.forall_mem_cons.mpr ⟨lw_p10, List.forall_mem_cons.mpr ⟨lw_p11, List.forall_mem_cons.mpr ⟨lw_p12, List.forall_mem_cons.mpr ⟨lw_p13, List.forall_mem_cons.mpr ⟨lw_p14, List.forall_mem_cons.mpr ⟨lw_p15, fun _ h => absurd h List.not_mem_nil⟩⟩⟩⟩⟩⟩⟩⟩⟩⟩⟩⟩⟩⟩⟩⟩
theorem lw_p16 : lw_okq (⟨"CapabilityDomainsModel", "noDomain", "(I)Z"⟩, 18) := ⟨⟨by decide +kernel, by decide +kernel⟩, List.mem_of_getElem? (i := 610) (by decide +kernel), List.mem_of_getElem? (i := 691) (by decide +kernel), List.mem_of_getElem? (i := 692) (by decide +kernel)⟩
theorem lw_p17 : lw_okq (⟨"CapabilityDomainsModel", "objects", "(I)I"⟩, 18) := ⟨⟨by decide +kernel, by decide +kernel⟩, List.mem_of_getElem? (i := 610) (by decide +kernel), List.mem_of_getElem? (i := 695) (by decide +kernel), List.mem_of_getElem? (i := 696) (by decide +kernel)⟩
theorem lw_p18 : lw_okq (⟨"CapabilityDomainsModel", "newObject", "(I)I"⟩, 18) := ⟨⟨by decide +kernel, by decide +kernel⟩, List.mem_of_getElem? (i := 610) (by decide +kernel), List.mem_of_getElem? (i := 699) (by decide +kernel), List.mem_of_getElem? (i := 700) (by decide +kernel)⟩
theorem lw_p19 : lw_okq (⟨"CapabilityDomainsModel", "put", "(III)V"⟩, 18) := ⟨⟨by decide +kernel, by decide +kernel⟩, List.mem_of_getElem? (i := 610) (by decide +kernel), List.mem_of_getElem? (i := 703) (by decide +kernel), List.mem_of_getElem? (i := 704) (by decide +kernel)⟩
theorem lw_p20 : lw_okq (⟨"CapabilityDomainsModel", "none", "(II)Z"⟩, 18) := ⟨⟨by decide +kernel, by decide +kernel⟩, List.mem_of_getElem? (i := 610) (by decide +kernel), List.mem_of_getElem? (i := 711) (by decide +kernel), List.mem_of_getElem? (i := 712) (by decide +kernel)⟩
theorem lw_p21 : lw_okq (⟨"CapabilityDomainsModel", "out", "(II)Z"⟩, 18) := ⟨⟨by decide +kernel, by decide +kernel⟩, List.mem_of_getElem? (i := 610) (by decide +kernel), List.mem_of_getElem? (i := 715) (by decide +kernel), List.mem_of_getElem? (i := 716) (by decide +kernel)⟩
theorem lw_p22 : lw_okq (⟨"CapabilityDomainsModel", "capability", "(IIII)I"⟩, 18) := ⟨⟨by decide +kernel, by decide +kernel⟩, List.mem_of_getElem? (i := 610) (by decide +kernel), List.mem_of_getElem? (i := 731) (by decide +kernel), List.mem_of_getElem? (i := 732) (by decide +kernel)⟩
theorem lw_p23 : lw_okq (⟨"CapabilityDomainsModel", "dead", "(I)Z"⟩, 18) := ⟨⟨by decide +kernel, by decide +kernel⟩, List.mem_of_getElem? (i := 610) (by decide +kernel), List.mem_of_getElem? (i := 739) (by decide +kernel), List.mem_of_getElem? (i := 740) (by decide +kernel)⟩
theorem lw_p24 : lw_okq (⟨"CapabilityDomainsModel", "home", "(I)I"⟩, 18) := ⟨⟨by decide +kernel, by decide +kernel⟩, List.mem_of_getElem? (i := 610) (by decide +kernel), List.mem_of_getElem? (i := 743) (by decide +kernel), List.mem_of_getElem? (i := 744) (by decide +kernel)⟩
theorem lw_p25 : lw_okq (⟨"CapabilityDomainsModel", "alive", "()I"⟩, 18) := ⟨⟨by decide +kernel, by decide +kernel⟩, List.mem_of_getElem? (i := 610) (by decide +kernel), List.mem_of_getElem? (i := 755) (by decide +kernel), List.mem_of_getElem? (i := 756) (by decide +kernel)⟩
theorem lw_p26 : lw_okq (⟨"CapabilityDomainsModel", "useFails", "(III)I"⟩, 18) := ⟨⟨by decide +kernel, by decide +kernel⟩, List.mem_of_getElem? (i := 610) (by decide +kernel), List.mem_of_getElem? (i := 763) (by decide +kernel), List.mem_of_getElem? (i := 764) (by decide +kernel)⟩
theorem lw_p27 : lw_okq (⟨"CapabilityDomainsModel", "usedUp", "(I)Z"⟩, 18) := ⟨⟨by decide +kernel, by decide +kernel⟩, List.mem_of_getElem? (i := 610) (by decide +kernel), List.mem_of_getElem? (i := 767) (by decide +kernel), List.mem_of_getElem? (i := 768) (by decide +kernel)⟩
theorem lw_p28 : lw_okq (⟨"CapabilityDomainsModel", "use", "(I)V"⟩, 18) := ⟨⟨by decide +kernel, by decide +kernel⟩, List.mem_of_getElem? (i := 610) (by decide +kernel), List.mem_of_getElem? (i := 771) (by decide +kernel), List.mem_of_getElem? (i := 772) (by decide +kernel)⟩
theorem lw_p29 : lw_okq (⟨"CapabilityDomainsModel", "gather", "(II)V"⟩, 18) := ⟨⟨by decide +kernel, by decide +kernel⟩, List.mem_of_getElem? (i := 610) (by decide +kernel), List.mem_of_getElem? (i := 783) (by decide +kernel), List.mem_of_getElem? (i := 784) (by decide +kernel)⟩
def lw_privs_2 : List (MethodName × Nat) := [(⟨"CapabilityDomainsModel", "noDomain", "(I)Z"⟩, 18), (⟨"CapabilityDomainsModel", "objects", "(I)I"⟩, 18), (⟨"CapabilityDomainsModel", "newObject", "(I)I"⟩, 18), (⟨"CapabilityDomainsModel", "put", "(III)V"⟩, 18), (⟨"CapabilityDomainsModel", "none", "(II)Z"⟩, 18), (⟨"CapabilityDomainsModel", "out", "(II)Z"⟩, 18), (⟨"CapabilityDomainsModel", "capability", "(IIII)I"⟩, 18), (⟨"CapabilityDomainsModel", "dead", "(I)Z"⟩, 18), (⟨"CapabilityDomainsModel", "home", "(I)I"⟩, 18), (⟨"CapabilityDomainsModel", "alive", "()I"⟩, 18), (⟨"CapabilityDomainsModel", "useFails", "(III)I"⟩, 18), (⟨"CapabilityDomainsModel", "usedUp", "(I)Z"⟩, 18), (⟨"CapabilityDomainsModel", "use", "(I)V"⟩, 18), (⟨"CapabilityDomainsModel", "gather", "(II)V"⟩, 18)]
theorem lw_r2 : ∀ q ∈ lw_privs_2, lw_okq q := List.forall_mem_cons.mpr ⟨lw_p16, List.forall_mem_cons.mpr ⟨lw_p17, List.forall_mem_cons.mpr ⟨lw_p18, List.forall_mem_cons.mpr ⟨lw_p19, List.forall_mem_cons.mpr ⟨lw_p20, List.forall_mem_cons.mpr ⟨lw_p21, List.forall_mem_cons.mpr ⟨lw_p22, List.forall_mem_cons.mpr ⟨lw_p23, List.forall_mem_cons.mpr ⟨lw_p24, List.forall_mem_cons.mpr ⟨lw_p25, List.forall_mem_cons.mpr ⟨lw_p26, List.forall_mem_cons.mpr ⟨lw_p27, List.forall_mem_cons.mpr ⟨lw_p28, List.forall_mem_cons.mpr ⟨lw_p29, fun _ h => absurd h List.not_mem_nil⟩⟩⟩⟩⟩⟩⟩⟩⟩⟩⟩⟩⟩⟩
def lw_privs : List (MethodName × Nat) := lw_privs_1 ++ (lw_privs_2)
def lw_tbl : List Cond := k2_sels lw_privs ++ tables_1
theorem lw_privs_ok : ∀ q ∈ lw_privs, lw_okq q := by
  show ∀ q ∈ lw_privs_1 ++ (lw_privs_2), lw_okq q
  exact List.forall_mem_append.mpr ⟨lw_r1, lw_r2⟩
end
section
def F_Cd : u_T := fun k => match k with
  | 0 => ("CapabilityDomains", "domains", "[LCapabilityDomains$Domain;", true)
  | 1 => ("CapabilityDomains", "domainsMade", "I", false)
  | 2 => ("CapabilityDomains", "capabilities", "[LCapabilityDomains$Capability;", true)
  | 3 => ("CapabilityDomains", "capabilitiesMade", "I", false)
  | _ => ("CapabilityDomains", "reach", "LCapabilityDomains$Reach;", true)
def t_Cd : Nat → FieldType := fun k => match k with
  | 0 => .array (.object "CapabilityDomains$Domain")
  | 1 => .int
  | 2 => .array (.object "CapabilityDomains$Capability")
  | 3 => .int
  | _ => .object "CapabilityDomains$Reach"
abbrev q_Cd : vw_C := ("CapabilityDomains", F_Cd, 5)
def F_Do : u_T := fun k => match k with
  | 0 => ("CapabilityDomains$Domain", "ended", "Z", false)
  | 1 => ("CapabilityDomains$Domain", "objects", "[LCapabilityDomains$DomainObject;", true)
  | _ => ("CapabilityDomains$Domain", "slots", "[LCapabilityDomains$Capability;", true)
def t_Do : Nat → FieldType := fun k => match k with
  | 0 => .boolean
  | 1 => .array (.object "CapabilityDomains$DomainObject")
  | _ => .array (.object "CapabilityDomains$Capability")
abbrev q_Do : vw_C := ("CapabilityDomains$Domain", F_Do, 3)
def F_Ob : u_T := fun k => match k with
  | 0 => ("CapabilityDomains$DomainObject", "there", "Z", false)
  | _ => ("CapabilityDomains$DomainObject", "fields", "[LCapabilityDomains$Field;", true)
def t_Ob : Nat → FieldType := fun k => match k with
  | 0 => .boolean
  | _ => .array (.object "CapabilityDomains$Field")
abbrev q_Ob : vw_C := ("CapabilityDomains$DomainObject", F_Ob, 2)
def F_Fi : u_T := fun k => match k with
  | 0 => ("CapabilityDomains$Field", "number", "I", false)
  | 1 => ("CapabilityDomains$Field", "link", "I", false)
  | _ => ("CapabilityDomains$Field", "capability", "LCapabilityDomains$Capability;", false)
def t_Fi : Nat → FieldType := fun k => match k with
  | 0 => .int
  | 1 => .int
  | _ => .object "CapabilityDomains$Capability"
abbrev q_Fi : vw_C := ("CapabilityDomains$Field", F_Fi, 3)
def F_Ca : u_T := fun k => match k with
  | 0 => ("CapabilityDomains$Capability", "home", "LCapabilityDomains$Domain;", true)
  | 1 => ("CapabilityDomains$Capability", "target", "I", true)
  | 2 => ("CapabilityDomains$Capability", "parent", "LCapabilityDomains$Capability;", true)
  | 3 => ("CapabilityDomains$Capability", "rights", "I", true)
  | 4 => ("CapabilityDomains$Capability", "uses", "I", false)
  | 5 => ("CapabilityDomains$Capability", "revoked", "Z", false)
  | _ => ("CapabilityDomains$Capability", "dead", "Z", false)
def t_Ca : Nat → FieldType := fun k => match k with
  | 0 => .object "CapabilityDomains$Domain"
  | 1 => .int
  | 2 => .object "CapabilityDomains$Capability"
  | 3 => .int
  | 4 => .int
  | 5 => .boolean
  | _ => .boolean
abbrev q_Ca : vw_C := ("CapabilityDomains$Capability", F_Ca, 7)
def F_Re : u_T := fun k => match k with
  | 0 => ("CapabilityDomains$Reach", "size", "I", false)
  | 1 => ("CapabilityDomains$Reach", "copyNumber", "[I", true)
  | 2 => ("CapabilityDomains$Reach", "order", "[I", true)
  | 3 => ("CapabilityDomains$Reach", "seen", "[Z", true)
  | _ => ("CapabilityDomains$Reach", "from", "LCapabilityDomains$Domain;", false)
def t_Re : Nat → FieldType := fun k => match k with
  | 0 => .int
  | 1 => .array (.int)
  | 2 => .array (.int)
  | 3 => .array (.boolean)
  | _ => .object "CapabilityDomains$Domain"
abbrev q_Re : vw_C := ("CapabilityDomains$Reach", F_Re, 5)
def F_Mo : u_T := fun k => match k with
  | 0 => ("CapabilityDomainsModel", "domains", "I", false)
  | 1 => ("CapabilityDomainsModel", "made", "I", false)
  | 2 => ("CapabilityDomainsModel", "code", "I", false)
  | 3 => ("CapabilityDomainsModel", "ended", "[Z", true)
  | 4 => ("CapabilityDomainsModel", "there", "[Z", true)
  | 5 => ("CapabilityDomainsModel", "sort", "[I", true)
  | 6 => ("CapabilityDomainsModel", "value", "[I", true)
  | 7 => ("CapabilityDomainsModel", "slot", "[I", true)
  | 8 => ("CapabilityDomainsModel", "target", "[I", true)
  | 9 => ("CapabilityDomainsModel", "rights", "[I", true)
  | 10 => ("CapabilityDomainsModel", "uses", "[I", true)
  | 11 => ("CapabilityDomainsModel", "parent", "[I", true)
  | 12 => ("CapabilityDomainsModel", "gone", "[Z", true)
  | 13 => ("CapabilityDomainsModel", "found", "[I", true)
  | 14 => ("CapabilityDomainsModel", "copyOf", "[I", true)
  | 15 => ("CapabilityDomainsModel", "under", "[I", true)
  | 16 => ("CapabilityDomainsModel", "next", "[I", true)
  | _ => ("CapabilityDomainsModel", "copies", "I", false)
def t_Mo : Nat → FieldType := fun k => match k with
  | 0 => .int
  | 1 => .int
  | 2 => .int
  | 3 => .array (.boolean)
  | 4 => .array (.boolean)
  | 5 => .array (.int)
  | 6 => .array (.int)
  | 7 => .array (.int)
  | 8 => .array (.int)
  | 9 => .array (.int)
  | 10 => .array (.int)
  | 11 => .array (.int)
  | 12 => .array (.boolean)
  | 13 => .array (.int)
  | 14 => .array (.int)
  | 15 => .array (.int)
  | 16 => .array (.int)
  | _ => .int
abbrev q_Mo : vw_C := ("CapabilityDomainsModel", F_Mo, 18)
def cd_cls : List vw_C := [q_Cd, q_Do, q_Ob, q_Fi, q_Ca, q_Re, q_Mo]
/-- which fields hold references -/
def cd_rf : Nat → Nat → Bool
  | 0, 0 => true
  | 0, 2 => true
  | 0, 4 => true
  | 1, 1 => true
  | 1, 2 => true
  | 2, 1 => true
  | 3, 2 => true
  | 4, 0 => true
  | 4, 2 => true
  | 5, 1 => true
  | 5, 2 => true
  | 5, 3 => true
  | 5, 4 => true
  | 6, 3 => true
  | 6, 4 => true
  | 6, 5 => true
  | 6, 6 => true
  | 6, 7 => true
  | 6, 8 => true
  | 6, 9 => true
  | 6, 10 => true
  | 6, 11 => true
  | 6, 12 => true
  | 6, 13 => true
  | 6, 14 => true
  | 6, 15 => true
  | 6, 16 => true
  | _, _ => false
def cd_ty : List FieldType := [.int, .boolean, .long, .object "CapabilityDomains$Domain", .object "CapabilityDomains$DomainObject", .object "CapabilityDomains$Field", .object "CapabilityDomains$Capability"]
def cd_tk : Nat → Nat
  | 2 => 2
  | 3 => 1
  | 4 => 1
  | 5 => 1
  | 6 => 1
  | _ => 0
def cd_ex : Nat → String
  | 1 => "java/lang/IllegalArgumentException"
  | 2 => "java/lang/IllegalStateException"
  | 3 => "java/util/NoSuchElementException"
  | 4 => "java/lang/UnsupportedOperationException"
  | 5 => "java/lang/IndexOutOfBoundsException"
  | _ => "java/lang/ArithmeticException"
def cd_up : List String := ["java/lang/RuntimeException", "java/lang/Exception"]
def cd_str : List (String × Nat × String) := [("CapabilityDomains", 34, "all domains were made"), ("CapabilityDomains", 251, "no such domain"), ("CapabilityDomains", 253, "the domain has ended"), ("CapabilityDomains", 50, "the domain is full"), ("CapabilityDomains", 104, "no such object"), ("CapabilityDomains", 255, "no such field"), ("CapabilityDomains", 75, "no such object to link to"), ("CapabilityDomains", 86, "no such slot"), ("CapabilityDomains", 257, "the slot is empty"), ("CapabilityDomains", 244, "no such domain or slot"), ("CapabilityDomains", 247, "rights or uses out of range"), ("CapabilityDomains", 249, "all capabilities were made"), ("CapabilityDomains", 120, "the capability is dead"), ("CapabilityDomains", 127, "the parent lacks a right"), ("CapabilityDomains", 141, "only the home revokes"), ("CapabilityDomains", 262, "the capability is dead or used up"), ("CapabilityDomains", 264, "the capability lacks the right"), ("CapabilityDomains", 161, "the field holds no int"), ("CapabilityDomains", 169, "no such object to pass"), ("CapabilityDomains", 178, "the home has no room for the copies"), ("CapabilityDomains", 192, "the field holds no capability")]
abbrev y_Cd_init : MethodName := ⟨"CapabilityDomains", "<init>", "()V"⟩
abbrev y_Cd_domain : MethodName := ⟨"CapabilityDomains", "domain", "()I"⟩
abbrev y_Cd_object : MethodName := ⟨"CapabilityDomains", "object", "(I)I"⟩
abbrev y_Cd_set : MethodName := ⟨"CapabilityDomains", "set", "(IIII)I"⟩
abbrev y_Cd_link : MethodName := ⟨"CapabilityDomains", "link", "(IIII)I"⟩
abbrev y_Cd_hold : MethodName := ⟨"CapabilityDomains", "hold", "(IIII)I"⟩
abbrev y_Cd_export : MethodName := ⟨"CapabilityDomains", "export", "(IIIII)I"⟩
abbrev y_Cd_narrow : MethodName := ⟨"CapabilityDomains", "narrow", "(IIII)I"⟩
abbrev y_Cd_give : MethodName := ⟨"CapabilityDomains", "give", "(IIII)I"⟩
abbrev y_Cd_revoke : MethodName := ⟨"CapabilityDomains", "revoke", "(II)I"⟩
abbrev y_Cd_read : MethodName := ⟨"CapabilityDomains", "read", "(III)I"⟩
abbrev y_Cd_write : MethodName := ⟨"CapabilityDomains", "write", "(IIII)I"⟩
abbrev y_Cd_pass : MethodName := ⟨"CapabilityDomains", "pass", "(IIII)I"⟩
abbrev y_Cd_take : MethodName := ⟨"CapabilityDomains", "take", "(IIII)I"⟩
abbrev y_Cd_free : MethodName := ⟨"CapabilityDomains", "free", "(II)I"⟩
abbrev y_Cd_end : MethodName := ⟨"CapabilityDomains", "end", "(I)I"⟩
abbrev y_Cd_holds : MethodName := ⟨"CapabilityDomains", "holds", "(III)I"⟩
abbrev y_Cd_linked : MethodName := ⟨"CapabilityDomains", "linked", "(III)I"⟩
abbrev y_Cd_slot : MethodName := ⟨"CapabilityDomains", "slot", "(II)I"⟩
abbrev y_Cd_count : MethodName := ⟨"CapabilityDomains", "count", "(I)I"⟩
abbrev y_Cd_livingDomains : MethodName := ⟨"CapabilityDomains", "livingDomains", "()I"⟩
abbrev y_Cd_livingCapabilities : MethodName := ⟨"CapabilityDomains", "livingCapabilities", "()I"⟩
abbrev y_Cd_objectsOf : MethodName := ⟨"CapabilityDomains", "objectsOf", "(I)I"⟩
abbrev y_Cd_isDomain : MethodName := ⟨"CapabilityDomains", "isDomain", "(I)Z"⟩
abbrev y_Cd_isSlot : MethodName := ⟨"CapabilityDomains", "isSlot", "(I)Z"⟩
abbrev y_Cd_isField : MethodName := ⟨"CapabilityDomains", "isField", "(III)Z"⟩
abbrev y_Cd_requireSlot : MethodName := ⟨"CapabilityDomains", "requireSlot", "(II)V"⟩
abbrev y_Cd_requireGrant : MethodName := ⟨"CapabilityDomains", "requireGrant", "(II)V"⟩
abbrev y_Cd_requireCapabilityLeft : MethodName := ⟨"CapabilityDomains", "requireCapabilityLeft", "()V"⟩
abbrev y_Cd_livingDomain : MethodName := ⟨"CapabilityDomains", "livingDomain", "(I)LCapabilityDomains$Domain;"⟩
abbrev y_Cd_fieldOf : MethodName := ⟨"CapabilityDomains", "fieldOf", "(LCapabilityDomains$Domain;II)LCapabilityDomains$Field;"⟩
abbrev y_Cd_capabilityIn : MethodName := ⟨"CapabilityDomains", "capabilityIn", "(LCapabilityDomains$Domain;I)LCapabilityDomains$Capability;"⟩
abbrev y_Cd_usable : MethodName := ⟨"CapabilityDomains", "usable", "(III)LCapabilityDomains$Capability;"⟩
abbrev y_Cd_targetField : MethodName := ⟨"CapabilityDomains", "targetField", "(LCapabilityDomains$Capability;I)LCapabilityDomains$Field;"⟩
abbrev y_Cd_putNew : MethodName := ⟨"CapabilityDomains", "putNew", "(LCapabilityDomains$Capability;LCapabilityDomains$Domain;I)I"⟩
abbrev y_Cd_spreadDeath : MethodName := ⟨"CapabilityDomains", "spreadDeath", "()I"⟩
abbrev y_Mo_init : MethodName := ⟨"CapabilityDomainsModel", "<init>", "()V"⟩
abbrev y_Mo_thrown : MethodName := ⟨"CapabilityDomainsModel", "thrown", "()I"⟩
abbrev y_Mo_fail : MethodName := ⟨"CapabilityDomainsModel", "fail", "(I)I"⟩
abbrev y_Mo_fine : MethodName := ⟨"CapabilityDomainsModel", "fine", "(I)I"⟩
abbrev y_Mo_noDomain : MethodName := ⟨"CapabilityDomainsModel", "noDomain", "(I)Z"⟩
abbrev y_Mo_out : MethodName := ⟨"CapabilityDomainsModel", "out", "(II)Z"⟩
abbrev y_Mo_none : MethodName := ⟨"CapabilityDomainsModel", "none", "(II)Z"⟩
abbrev y_Mo_home : MethodName := ⟨"CapabilityDomainsModel", "home", "(I)I"⟩
abbrev y_Mo_dead : MethodName := ⟨"CapabilityDomainsModel", "dead", "(I)Z"⟩
abbrev y_Mo_usedUp : MethodName := ⟨"CapabilityDomainsModel", "usedUp", "(I)Z"⟩
abbrev y_Mo_alive : MethodName := ⟨"CapabilityDomainsModel", "alive", "()I"⟩
abbrev y_Mo_useFails : MethodName := ⟨"CapabilityDomainsModel", "useFails", "(III)I"⟩
abbrev y_Mo_use : MethodName := ⟨"CapabilityDomainsModel", "use", "(I)V"⟩
abbrev y_Mo_put : MethodName := ⟨"CapabilityDomainsModel", "put", "(III)V"⟩
abbrev y_Mo_domain : MethodName := ⟨"CapabilityDomainsModel", "domain", "()I"⟩
abbrev y_Mo_objects : MethodName := ⟨"CapabilityDomainsModel", "objects", "(I)I"⟩
abbrev y_Mo_newObject : MethodName := ⟨"CapabilityDomainsModel", "newObject", "(I)I"⟩
abbrev y_Mo_object : MethodName := ⟨"CapabilityDomainsModel", "object", "(I)I"⟩
abbrev y_Mo_set : MethodName := ⟨"CapabilityDomainsModel", "set", "(IIII)I"⟩
abbrev y_Mo_link : MethodName := ⟨"CapabilityDomainsModel", "link", "(IIII)I"⟩
abbrev y_Mo_hold : MethodName := ⟨"CapabilityDomainsModel", "hold", "(IIII)I"⟩
abbrev y_Mo_capability : MethodName := ⟨"CapabilityDomainsModel", "capability", "(IIII)I"⟩
abbrev y_Mo_export : MethodName := ⟨"CapabilityDomainsModel", "export", "(IIIII)I"⟩
abbrev y_Mo_narrow : MethodName := ⟨"CapabilityDomainsModel", "narrow", "(IIII)I"⟩
abbrev y_Mo_give : MethodName := ⟨"CapabilityDomainsModel", "give", "(IIII)I"⟩
abbrev y_Mo_revoke : MethodName := ⟨"CapabilityDomainsModel", "revoke", "(II)I"⟩
abbrev y_Mo_read : MethodName := ⟨"CapabilityDomainsModel", "read", "(III)I"⟩
abbrev y_Mo_write : MethodName := ⟨"CapabilityDomainsModel", "write", "(IIII)I"⟩
abbrev y_Mo_gather : MethodName := ⟨"CapabilityDomainsModel", "gather", "(II)V"⟩
abbrev y_Mo_pass : MethodName := ⟨"CapabilityDomainsModel", "pass", "(IIII)I"⟩
abbrev y_Mo_take : MethodName := ⟨"CapabilityDomainsModel", "take", "(IIII)I"⟩
abbrev y_Mo_free : MethodName := ⟨"CapabilityDomainsModel", "free", "(II)I"⟩
abbrev y_Mo_end : MethodName := ⟨"CapabilityDomainsModel", "end", "(I)I"⟩
abbrev y_Mo_holds : MethodName := ⟨"CapabilityDomainsModel", "holds", "(III)I"⟩
abbrev y_Mo_linked : MethodName := ⟨"CapabilityDomainsModel", "linked", "(III)I"⟩
abbrev y_Mo_slot : MethodName := ⟨"CapabilityDomainsModel", "slot", "(II)I"⟩
abbrev y_Mo_count : MethodName := ⟨"CapabilityDomainsModel", "count", "(I)I"⟩
abbrev y_Ca_init : MethodName := ⟨"CapabilityDomains$Capability", "<init>", "(LCapabilityDomains$Domain;ILCapabilityDomains$Capability;II)V"⟩
abbrev y_Ca_allows : MethodName := ⟨"CapabilityDomains$Capability", "allows", "(I)Z"⟩
abbrev y_Ca_mustDie : MethodName := ⟨"CapabilityDomains$Capability", "mustDie", "()Z"⟩
abbrev y_Ca_isUsedUp : MethodName := ⟨"CapabilityDomains$Capability", "isUsedUp", "()Z"⟩
abbrev y_Ca_spendOneUse : MethodName := ⟨"CapabilityDomains$Capability", "spendOneUse", "()V"⟩
abbrev y_Do_init : MethodName := ⟨"CapabilityDomains$Domain", "<init>", "()V"⟩
abbrev y_Do_hasObject : MethodName := ⟨"CapabilityDomains$Domain", "hasObject", "(I)Z"⟩
abbrev y_Do_objectCount : MethodName := ⟨"CapabilityDomains$Domain", "objectCount", "()I"⟩
abbrev y_Do_makeObject : MethodName := ⟨"CapabilityDomains$Domain", "makeObject", "()I"⟩
abbrev y_Do_removeObject : MethodName := ⟨"CapabilityDomains$Domain", "removeObject", "(I)I"⟩
abbrev y_Do_replaceSlot : MethodName := ⟨"CapabilityDomains$Domain", "replaceSlot", "(ILCapabilityDomains$Capability;)I"⟩
abbrev y_Do_finish : MethodName := ⟨"CapabilityDomains$Domain", "finish", "()V"⟩
abbrev y_Ob_init : MethodName := ⟨"CapabilityDomains$DomainObject", "<init>", "()V"⟩
abbrev y_Ob_begin : MethodName := ⟨"CapabilityDomains$DomainObject", "begin", "()V"⟩
abbrev y_Ob_unlink : MethodName := ⟨"CapabilityDomains$DomainObject", "unlink", "(I)I"⟩
abbrev y_Fi_init : MethodName := ⟨"CapabilityDomains$Field", "<init>", "()V"⟩
abbrev y_Fi_isLink : MethodName := ⟨"CapabilityDomains$Field", "isLink", "()Z"⟩
abbrev y_Fi_isNumber : MethodName := ⟨"CapabilityDomains$Field", "isNumber", "()Z"⟩
abbrev y_Fi_becomeNumber : MethodName := ⟨"CapabilityDomains$Field", "becomeNumber", "(I)V"⟩
abbrev y_Fi_becomeLink : MethodName := ⟨"CapabilityDomains$Field", "becomeLink", "(I)V"⟩
abbrev y_Fi_becomeCapability : MethodName := ⟨"CapabilityDomains$Field", "becomeCapability", "(LCapabilityDomains$Capability;)V"⟩
abbrev y_Re_init : MethodName := ⟨"CapabilityDomains$Reach", "<init>", "()V"⟩
abbrev y_Re_start : MethodName := ⟨"CapabilityDomains$Reach", "start", "(LCapabilityDomains$Domain;I)V"⟩
abbrev y_Re_comeTo : MethodName := ⟨"CapabilityDomains$Reach", "comeTo", "(II)V"⟩
abbrev y_Re_copyInto : MethodName := ⟨"CapabilityDomains$Reach", "copyInto", "(LCapabilityDomains$Domain;)V"⟩
abbrev y_Re_copyFields : MethodName := ⟨"CapabilityDomains$Reach", "copyFields", "(LCapabilityDomains$DomainObject;LCapabilityDomains$DomainObject;)V"⟩
abbrev y_La_domain : MethodName := ⟨"CapabilityDomainsLaw", "domain", "(LCapabilityDomains;[J)I"⟩
abbrev y_La_object : MethodName := ⟨"CapabilityDomainsLaw", "object", "(LCapabilityDomains;I[J)I"⟩
abbrev y_La_set : MethodName := ⟨"CapabilityDomainsLaw", "set", "(LCapabilityDomains;IIII[J)I"⟩
abbrev y_La_link : MethodName := ⟨"CapabilityDomainsLaw", "link", "(LCapabilityDomains;IIII[J)I"⟩
abbrev y_La_hold : MethodName := ⟨"CapabilityDomainsLaw", "hold", "(LCapabilityDomains;IIII[J)I"⟩
abbrev y_La_export : MethodName := ⟨"CapabilityDomainsLaw", "export", "(LCapabilityDomains;IIIII[J)I"⟩
abbrev y_La_narrow : MethodName := ⟨"CapabilityDomainsLaw", "narrow", "(LCapabilityDomains;IIII[J)I"⟩
abbrev y_La_give : MethodName := ⟨"CapabilityDomainsLaw", "give", "(LCapabilityDomains;IIII[J)I"⟩
abbrev y_La_revoke : MethodName := ⟨"CapabilityDomainsLaw", "revoke", "(LCapabilityDomains;II[J)I"⟩
abbrev y_La_read : MethodName := ⟨"CapabilityDomainsLaw", "read", "(LCapabilityDomains;III[J)I"⟩
abbrev y_La_write : MethodName := ⟨"CapabilityDomainsLaw", "write", "(LCapabilityDomains;IIII[J)I"⟩
abbrev y_La_pass : MethodName := ⟨"CapabilityDomainsLaw", "pass", "(LCapabilityDomains;IIII[J)I"⟩
abbrev y_La_take : MethodName := ⟨"CapabilityDomainsLaw", "take", "(LCapabilityDomains;IIII[J)I"⟩
abbrev y_La_free : MethodName := ⟨"CapabilityDomainsLaw", "free", "(LCapabilityDomains;II[J)I"⟩
abbrev y_La_end : MethodName := ⟨"CapabilityDomainsLaw", "end", "(LCapabilityDomains;I[J)I"⟩
abbrev y_La_law : MethodName := ⟨"CapabilityDomainsLaw", "law", "([I)Z"⟩
def cd_gw (c : Cond) : Bool := c.onTables && c.keepsFace
theorem cd_tw {c : Cond} (i : Nat) (h : lw_tbl[i]? = some c) (g : cd_gw c = true) : c ∈ lw_tbl ∧ cd_gw c = true := ⟨List.mem_of_getElem? h, g⟩
theorem in_La : (.initialized "CapabilityDomainsLaw" : Cond) ∈ lw_tbl ∧ cd_gw (.initialized "CapabilityDomainsLaw") = true := cd_tw 30 (by decide +kernel) (by decide +kernel)
theorem in_Cd : (.initialized "CapabilityDomains" : Cond) ∈ lw_tbl ∧ cd_gw (.initialized "CapabilityDomains") = true := cd_tw 31 (by decide +kernel) (by decide +kernel)
theorem in_Re : (.initialized "CapabilityDomains$Reach" : Cond) ∈ lw_tbl ∧ cd_gw (.initialized "CapabilityDomains$Reach") = true := cd_tw 32 (by decide +kernel) (by decide +kernel)
theorem in_Mo : (.initialized "CapabilityDomainsModel" : Cond) ∈ lw_tbl ∧ cd_gw (.initialized "CapabilityDomainsModel") = true := cd_tw 33 (by decide +kernel) (by decide +kernel)
theorem in_Throwable : (.initialized "java/lang/Throwable" : Cond) ∈ lw_tbl ∧ cd_gw (.initialized "java/lang/Throwable") = true := cd_tw 34 (by decide +kernel) (by decide +kernel)
theorem in_Exception : (.initialized "java/lang/Exception" : Cond) ∈ lw_tbl ∧ cd_gw (.initialized "java/lang/Exception") = true := cd_tw 35 (by decide +kernel) (by decide +kernel)
theorem in_RuntimeException : (.initialized "java/lang/RuntimeException" : Cond) ∈ lw_tbl ∧ cd_gw (.initialized "java/lang/RuntimeException") = true := cd_tw 36 (by decide +kernel) (by decide +kernel)
theorem in_IllegalStateException : (.initialized "java/lang/IllegalStateException" : Cond) ∈ lw_tbl ∧ cd_gw (.initialized "java/lang/IllegalStateException") = true := cd_tw 37 (by decide +kernel) (by decide +kernel)
theorem in_Do : (.initialized "CapabilityDomains$Domain" : Cond) ∈ lw_tbl ∧ cd_gw (.initialized "CapabilityDomains$Domain") = true := cd_tw 38 (by decide +kernel) (by decide +kernel)
theorem in_Ob : (.initialized "CapabilityDomains$DomainObject" : Cond) ∈ lw_tbl ∧ cd_gw (.initialized "CapabilityDomains$DomainObject") = true := cd_tw 39 (by decide +kernel) (by decide +kernel)
theorem in_Fi : (.initialized "CapabilityDomains$Field" : Cond) ∈ lw_tbl ∧ cd_gw (.initialized "CapabilityDomains$Field") = true := cd_tw 40 (by decide +kernel) (by decide +kernel)
theorem in_IllegalArgumentException : (.initialized "java/lang/IllegalArgumentException" : Cond) ∈ lw_tbl ∧ cd_gw (.initialized "java/lang/IllegalArgumentException") = true := cd_tw 41 (by decide +kernel) (by decide +kernel)
theorem in_ArithmeticException : (.initialized "java/lang/ArithmeticException" : Cond) ∈ lw_tbl ∧ cd_gw (.initialized "java/lang/ArithmeticException") = true := cd_tw 42 (by decide +kernel) (by decide +kernel)
theorem in_NoSuchElementException : (.initialized "java/util/NoSuchElementException" : Cond) ∈ lw_tbl ∧ cd_gw (.initialized "java/util/NoSuchElementException") = true := cd_tw 43 (by decide +kernel) (by decide +kernel)
theorem in_IndexOutOfBoundsException : (.initialized "java/lang/IndexOutOfBoundsException" : Cond) ∈ lw_tbl ∧ cd_gw (.initialized "java/lang/IndexOutOfBoundsException") = true := cd_tw 44 (by decide +kernel) (by decide +kernel)
theorem in_Ca : (.initialized "CapabilityDomains$Capability" : Cond) ∈ lw_tbl ∧ cd_gw (.initialized "CapabilityDomains$Capability") = true := cd_tw 45 (by decide +kernel) (by decide +kernel)
theorem in_UnsupportedOperationException : (.initialized "java/lang/UnsupportedOperationException" : Cond) ∈ lw_tbl ∧ cd_gw (.initialized "java/lang/UnsupportedOperationException") = true := cd_tw 46 (by decide +kernel) (by decide +kernel)
theorem kl_La_8 : (.classLink "CapabilityDomainsLaw" 8 "CapabilityDomains" : Cond) ∈ lw_tbl ∧ cd_gw (.classLink "CapabilityDomainsLaw" 8 "CapabilityDomains") = true := cd_tw 47 (by decide +kernel) (by decide +kernel)
theorem ia_Cd : (.instantiable "CapabilityDomains" 5 : Cond) ∈ lw_tbl ∧ cd_gw (.instantiable "CapabilityDomains" 5) = true := cd_tw 48 (by decide +kernel) (by decide +kernel)
theorem ml_La_72 : (.methodLink "CapabilityDomainsLaw" 72 ⟨"CapabilityDomains", "<init>", "()V"⟩ : Cond) ∈ lw_tbl ∧ cd_gw (.methodLink "CapabilityDomainsLaw" 72 ⟨"CapabilityDomains", "<init>", "()V"⟩) = true := cd_tw 49 (by decide +kernel) (by decide +kernel)
theorem im_Cd_init : (.instanceMethod ⟨"CapabilityDomains", "<init>", "()V"⟩ : Cond) ∈ lw_tbl ∧ cd_gw (.instanceMethod ⟨"CapabilityDomains", "<init>", "()V"⟩) = true := cd_tw 50 (by decide +kernel) (by decide +kernel)
theorem cw_Cd_init : (.code ⟨"CapabilityDomains", "<init>", "()V"⟩ prog_1_method_1_code 1 none : Cond) ∈ lw_tbl ∧ cd_gw (.code ⟨"CapabilityDomains", "<init>", "()V"⟩ prog_1_method_1_code 1 none) = true := cd_tw 51 (by decide +kernel) (by decide +kernel)
theorem ml_Cd_1 : (.methodLink "CapabilityDomains" 1 ⟨"java/lang/Object", "<init>", "()V"⟩ : Cond) ∈ lw_tbl ∧ cd_gw (.methodLink "CapabilityDomains" 1 ⟨"java/lang/Object", "<init>", "()V"⟩) = true := cd_tw 52 (by decide +kernel) (by decide +kernel)
theorem im_JO_init : (.instanceMethod ⟨"java/lang/Object", "<init>", "()V"⟩ : Cond) ∈ lw_tbl ∧ cd_gw (.instanceMethod ⟨"java/lang/Object", "<init>", "()V"⟩) = true := cd_tw 53 (by decide +kernel) (by decide +kernel)
theorem cw_JO_init : (.code ⟨"java/lang/Object", "<init>", "()V"⟩ object_method_1_code 1 none : Cond) ∈ lw_tbl ∧ cd_gw (.code ⟨"java/lang/Object", "<init>", "()V"⟩ object_method_1_code 1 none) = true := cd_tw 54 (by decide +kernel) (by decide +kernel)
theorem kl_Cd_9 : (.classLink "CapabilityDomains" 9 "CapabilityDomains$Domain" : Cond) ∈ lw_tbl ∧ cd_gw (.classLink "CapabilityDomains" 9 "CapabilityDomains$Domain") = true := cd_tw 55 (by decide +kernel) (by decide +kernel)
theorem kl_Cd_15 : (.classLink "CapabilityDomains" 15 "CapabilityDomains$Capability" : Cond) ∈ lw_tbl ∧ cd_gw (.classLink "CapabilityDomains" 15 "CapabilityDomains$Capability") = true := cd_tw 57 (by decide +kernel) (by decide +kernel)
theorem kl_Cd_21 : (.classLink "CapabilityDomains" 21 "CapabilityDomains$Reach" : Cond) ∈ lw_tbl ∧ cd_gw (.classLink "CapabilityDomains" 21 "CapabilityDomains$Reach") = true := cd_tw 59 (by decide +kernel) (by decide +kernel)
theorem ia_Re : (.instantiable "CapabilityDomains$Reach" 5 : Cond) ∈ lw_tbl ∧ cd_gw (.instantiable "CapabilityDomains$Reach" 5) = true := cd_tw 60 (by decide +kernel) (by decide +kernel)
theorem ml_Cd_23 : (.methodLink "CapabilityDomains" 23 ⟨"CapabilityDomains$Reach", "<init>", "()V"⟩ : Cond) ∈ lw_tbl ∧ cd_gw (.methodLink "CapabilityDomains" 23 ⟨"CapabilityDomains$Reach", "<init>", "()V"⟩) = true := cd_tw 61 (by decide +kernel) (by decide +kernel)
theorem im_Re_init : (.instanceMethod ⟨"CapabilityDomains$Reach", "<init>", "()V"⟩ : Cond) ∈ lw_tbl ∧ cd_gw (.instanceMethod ⟨"CapabilityDomains$Reach", "<init>", "()V"⟩) = true := cd_tw 62 (by decide +kernel) (by decide +kernel)
theorem cw_Re_init : (.code ⟨"CapabilityDomains$Reach", "<init>", "()V"⟩ prog_6_method_1_code 1 none : Cond) ∈ lw_tbl ∧ cd_gw (.code ⟨"CapabilityDomains$Reach", "<init>", "()V"⟩ prog_6_method_1_code 1 none) = true := cd_tw 63 (by decide +kernel) (by decide +kernel)
theorem ml_Re_3 : (.methodLink "CapabilityDomains$Reach" 3 ⟨"java/lang/Object", "<init>", "()V"⟩ : Cond) ∈ lw_tbl ∧ cd_gw (.methodLink "CapabilityDomains$Reach" 3 ⟨"java/lang/Object", "<init>", "()V"⟩) = true := cd_tw 64 (by decide +kernel) (by decide +kernel)
theorem lk_Re_26 : (.fieldLink "CapabilityDomains$Reach" 26 "CapabilityDomains$Reach" "size" "I" : Cond) ∈ lw_tbl ∧ cd_gw (.fieldLink "CapabilityDomains$Reach" 26 "CapabilityDomains$Reach" "size" "I") = true := cd_tw 65 (by decide +kernel) (by decide +kernel)
theorem lk_Cd_175 : (.fieldLink "CapabilityDomains" 175 "CapabilityDomains$Reach" "size" "I" : Cond) ∈ lw_tbl ∧ cd_gw (.fieldLink "CapabilityDomains" 175 "CapabilityDomains$Reach" "size" "I") = true := cd_tw 66 (by decide +kernel) (by decide +kernel)
theorem lk_Re_9 : (.fieldLink "CapabilityDomains$Reach" 9 "CapabilityDomains$Reach" "copyNumber" "[I" : Cond) ∈ lw_tbl ∧ cd_gw (.fieldLink "CapabilityDomains$Reach" 9 "CapabilityDomains$Reach" "copyNumber" "[I") = true := cd_tw 67 (by decide +kernel) (by decide +kernel)
theorem lk_Cd_184 : (.fieldLink "CapabilityDomains" 184 "CapabilityDomains$Reach" "copyNumber" "[I" : Cond) ∈ lw_tbl ∧ cd_gw (.fieldLink "CapabilityDomains" 184 "CapabilityDomains$Reach" "copyNumber" "[I") = true := cd_tw 68 (by decide +kernel) (by decide +kernel)
theorem lk_Re_15 : (.fieldLink "CapabilityDomains$Reach" 15 "CapabilityDomains$Reach" "order" "[I" : Cond) ∈ lw_tbl ∧ cd_gw (.fieldLink "CapabilityDomains$Reach" 15 "CapabilityDomains$Reach" "order" "[I") = true := cd_tw 69 (by decide +kernel) (by decide +kernel)
theorem lk_Re_18 : (.fieldLink "CapabilityDomains$Reach" 18 "CapabilityDomains$Reach" "seen" "[Z" : Cond) ∈ lw_tbl ∧ cd_gw (.fieldLink "CapabilityDomains$Reach" 18 "CapabilityDomains$Reach" "seen" "[Z") = true := cd_tw 70 (by decide +kernel) (by decide +kernel)
theorem lk_Re_22 : (.fieldLink "CapabilityDomains$Reach" 22 "CapabilityDomains$Reach" "from" "LCapabilityDomains$Domain;" : Cond) ∈ lw_tbl ∧ cd_gw (.fieldLink "CapabilityDomains$Reach" 22 "CapabilityDomains$Reach" "from" "LCapabilityDomains$Domain;") = true := cd_tw 71 (by decide +kernel) (by decide +kernel)
theorem lk_Cd_11 : (.fieldLink "CapabilityDomains" 11 "CapabilityDomains" "domains" "[LCapabilityDomains$Domain;" : Cond) ∈ lw_tbl ∧ cd_gw (.fieldLink "CapabilityDomains" 11 "CapabilityDomains" "domains" "[LCapabilityDomains$Domain;") = true := cd_tw 85 (by decide +kernel) (by decide +kernel)
theorem lk_Cd_28 : (.fieldLink "CapabilityDomains" 28 "CapabilityDomains" "domainsMade" "I" : Cond) ∈ lw_tbl ∧ cd_gw (.fieldLink "CapabilityDomains" 28 "CapabilityDomains" "domainsMade" "I") = true := cd_tw 86 (by decide +kernel) (by decide +kernel)
theorem lk_Cd_17 : (.fieldLink "CapabilityDomains" 17 "CapabilityDomains" "capabilities" "[LCapabilityDomains$Capability;" : Cond) ∈ lw_tbl ∧ cd_gw (.fieldLink "CapabilityDomains" 17 "CapabilityDomains" "capabilities" "[LCapabilityDomains$Capability;") = true := cd_tw 87 (by decide +kernel) (by decide +kernel)
theorem lk_Cd_233 : (.fieldLink "CapabilityDomains" 233 "CapabilityDomains" "capabilitiesMade" "I" : Cond) ∈ lw_tbl ∧ cd_gw (.fieldLink "CapabilityDomains" 233 "CapabilityDomains" "capabilitiesMade" "I") = true := cd_tw 88 (by decide +kernel) (by decide +kernel)
theorem lk_Cd_24 : (.fieldLink "CapabilityDomains" 24 "CapabilityDomains" "reach" "LCapabilityDomains$Reach;" : Cond) ∈ lw_tbl ∧ cd_gw (.fieldLink "CapabilityDomains" 24 "CapabilityDomains" "reach" "LCapabilityDomains$Reach;") = true := cd_tw 89 (by decide +kernel) (by decide +kernel)
theorem ml_La_132 : (.methodLink "CapabilityDomainsLaw" 132 ⟨"CapabilityDomains", "holds", "(III)I"⟩ : Cond) ∈ lw_tbl ∧ cd_gw (.methodLink "CapabilityDomainsLaw" 132 ⟨"CapabilityDomains", "holds", "(III)I"⟩) = true := cd_tw 101 (by decide +kernel) (by decide +kernel)
theorem im_Cd_holds : (.instanceMethod ⟨"CapabilityDomains", "holds", "(III)I"⟩ : Cond) ∈ lw_tbl ∧ cd_gw (.instanceMethod ⟨"CapabilityDomains", "holds", "(III)I"⟩) = true := cd_tw 102 (by decide +kernel) (by decide +kernel)
theorem se_Cd_holds : (.selects "CapabilityDomains" ⟨"CapabilityDomains", "holds", "(III)I"⟩ ⟨"CapabilityDomains", "holds", "(III)I"⟩ : Cond) ∈ lw_tbl ∧ cd_gw (.selects "CapabilityDomains" ⟨"CapabilityDomains", "holds", "(III)I"⟩ ⟨"CapabilityDomains", "holds", "(III)I"⟩) = true := cd_tw 103 (by decide +kernel) (by decide +kernel)
theorem cw_Cd_holds : (.code ⟨"CapabilityDomains", "holds", "(III)I"⟩ prog_1_method_17_code 5 (some .int) : Cond) ∈ lw_tbl ∧ cd_gw (.code ⟨"CapabilityDomains", "holds", "(III)I"⟩ prog_1_method_17_code 5 (some .int)) = true := cd_tw 104 (by decide +kernel) (by decide +kernel)
theorem ml_Cd_201 : (.methodLink "CapabilityDomains" 201 ⟨"CapabilityDomains", "isField", "(III)Z"⟩ : Cond) ∈ lw_tbl ∧ cd_gw (.methodLink "CapabilityDomains" 201 ⟨"CapabilityDomains", "isField", "(III)Z"⟩) = true := cd_tw 105 (by decide +kernel) (by decide +kernel)
theorem im_Cd_isField : (.instanceMethod ⟨"CapabilityDomains", "isField", "(III)Z"⟩ : Cond) ∈ lw_tbl ∧ cd_gw (.instanceMethod ⟨"CapabilityDomains", "isField", "(III)Z"⟩) = true := cd_tw 107 (by decide +kernel) (by decide +kernel)
theorem cw_Cd_isField : (.code ⟨"CapabilityDomains", "isField", "(III)Z"⟩ prog_1_method_26_code 4 (some .boolean) : Cond) ∈ lw_tbl ∧ cd_gw (.code ⟨"CapabilityDomains", "isField", "(III)Z"⟩ prog_1_method_26_code 4 (some .boolean)) = true := cd_tw 108 (by decide +kernel) (by decide +kernel)
theorem ml_Cd_221 : (.methodLink "CapabilityDomains" 221 ⟨"CapabilityDomains", "isDomain", "(I)Z"⟩ : Cond) ∈ lw_tbl ∧ cd_gw (.methodLink "CapabilityDomains" 221 ⟨"CapabilityDomains", "isDomain", "(I)Z"⟩) = true := cd_tw 109 (by decide +kernel) (by decide +kernel)
theorem im_Cd_isDomain : (.instanceMethod ⟨"CapabilityDomains", "isDomain", "(I)Z"⟩ : Cond) ∈ lw_tbl ∧ cd_gw (.instanceMethod ⟨"CapabilityDomains", "isDomain", "(I)Z"⟩) = true := cd_tw 111 (by decide +kernel) (by decide +kernel)
theorem cw_Cd_isDomain : (.code ⟨"CapabilityDomains", "isDomain", "(I)Z"⟩ prog_1_method_24_code 2 (some .boolean) : Cond) ∈ lw_tbl ∧ cd_gw (.code ⟨"CapabilityDomains", "isDomain", "(I)Z"⟩ prog_1_method_24_code 2 (some .boolean)) = true := cd_tw 112 (by decide +kernel) (by decide +kernel)
theorem ml_Cd_69 : (.methodLink "CapabilityDomains" 69 ⟨"CapabilityDomains$Domain", "hasObject", "(I)Z"⟩ : Cond) ∈ lw_tbl ∧ cd_gw (.methodLink "CapabilityDomains" 69 ⟨"CapabilityDomains$Domain", "hasObject", "(I)Z"⟩) = true := cd_tw 113 (by decide +kernel) (by decide +kernel)
theorem im_Do_hasObject : (.instanceMethod ⟨"CapabilityDomains$Domain", "hasObject", "(I)Z"⟩ : Cond) ∈ lw_tbl ∧ cd_gw (.instanceMethod ⟨"CapabilityDomains$Domain", "hasObject", "(I)Z"⟩) = true := cd_tw 114 (by decide +kernel) (by decide +kernel)
theorem se_Do_hasObject : (.selects "CapabilityDomains$Domain" ⟨"CapabilityDomains$Domain", "hasObject", "(I)Z"⟩ ⟨"CapabilityDomains$Domain", "hasObject", "(I)Z"⟩ : Cond) ∈ lw_tbl ∧ cd_gw (.selects "CapabilityDomains$Domain" ⟨"CapabilityDomains$Domain", "hasObject", "(I)Z"⟩ ⟨"CapabilityDomains$Domain", "hasObject", "(I)Z"⟩) = true := cd_tw 115 (by decide +kernel) (by decide +kernel)
theorem cw_Do_hasObject : (.code ⟨"CapabilityDomains$Domain", "hasObject", "(I)Z"⟩ prog_3_method_2_code 2 (some .boolean) : Cond) ∈ lw_tbl ∧ cd_gw (.code ⟨"CapabilityDomains$Domain", "hasObject", "(I)Z"⟩ prog_3_method_2_code 2 (some .boolean)) = true := cd_tw 116 (by decide +kernel) (by decide +kernel)
theorem ml_Cd_215 : (.methodLink "CapabilityDomains" 215 ⟨"CapabilityDomains$Field", "isLink", "()Z"⟩ : Cond) ∈ lw_tbl ∧ cd_gw (.methodLink "CapabilityDomains" 215 ⟨"CapabilityDomains$Field", "isLink", "()Z"⟩) = true := cd_tw 117 (by decide +kernel) (by decide +kernel)
theorem im_Fi_isLink : (.instanceMethod ⟨"CapabilityDomains$Field", "isLink", "()Z"⟩ : Cond) ∈ lw_tbl ∧ cd_gw (.instanceMethod ⟨"CapabilityDomains$Field", "isLink", "()Z"⟩) = true := cd_tw 118 (by decide +kernel) (by decide +kernel)
theorem se_Fi_isLink : (.selects "CapabilityDomains$Field" ⟨"CapabilityDomains$Field", "isLink", "()Z"⟩ ⟨"CapabilityDomains$Field", "isLink", "()Z"⟩ : Cond) ∈ lw_tbl ∧ cd_gw (.selects "CapabilityDomains$Field" ⟨"CapabilityDomains$Field", "isLink", "()Z"⟩ ⟨"CapabilityDomains$Field", "isLink", "()Z"⟩) = true := cd_tw 119 (by decide +kernel) (by decide +kernel)
theorem cw_Fi_isLink : (.code ⟨"CapabilityDomains$Field", "isLink", "()Z"⟩ prog_5_method_2_code 1 (some .boolean) : Cond) ∈ lw_tbl ∧ cd_gw (.code ⟨"CapabilityDomains$Field", "isLink", "()Z"⟩ prog_5_method_2_code 1 (some .boolean)) = true := cd_tw 120 (by decide +kernel) (by decide +kernel)
theorem ml_La_136 : (.methodLink "CapabilityDomainsLaw" 136 ⟨"CapabilityDomains", "linked", "(III)I"⟩ : Cond) ∈ lw_tbl ∧ cd_gw (.methodLink "CapabilityDomainsLaw" 136 ⟨"CapabilityDomains", "linked", "(III)I"⟩) = true := cd_tw 121 (by decide +kernel) (by decide +kernel)
theorem im_Cd_linked : (.instanceMethod ⟨"CapabilityDomains", "linked", "(III)I"⟩ : Cond) ∈ lw_tbl ∧ cd_gw (.instanceMethod ⟨"CapabilityDomains", "linked", "(III)I"⟩) = true := cd_tw 122 (by decide +kernel) (by decide +kernel)
theorem se_Cd_linked : (.selects "CapabilityDomains" ⟨"CapabilityDomains", "linked", "(III)I"⟩ ⟨"CapabilityDomains", "linked", "(III)I"⟩ : Cond) ∈ lw_tbl ∧ cd_gw (.selects "CapabilityDomains" ⟨"CapabilityDomains", "linked", "(III)I"⟩ ⟨"CapabilityDomains", "linked", "(III)I"⟩) = true := cd_tw 123 (by decide +kernel) (by decide +kernel)
theorem cw_Cd_linked : (.code ⟨"CapabilityDomains", "linked", "(III)I"⟩ prog_1_method_18_code 4 (some .int) : Cond) ∈ lw_tbl ∧ cd_gw (.code ⟨"CapabilityDomains", "linked", "(III)I"⟩ prog_1_method_18_code 4 (some .int)) = true := cd_tw 124 (by decide +kernel) (by decide +kernel)
theorem ml_La_140 : (.methodLink "CapabilityDomainsLaw" 140 ⟨"CapabilityDomains", "slot", "(II)I"⟩ : Cond) ∈ lw_tbl ∧ cd_gw (.methodLink "CapabilityDomainsLaw" 140 ⟨"CapabilityDomains", "slot", "(II)I"⟩) = true := cd_tw 125 (by decide +kernel) (by decide +kernel)
theorem im_Cd_slot : (.instanceMethod ⟨"CapabilityDomains", "slot", "(II)I"⟩ : Cond) ∈ lw_tbl ∧ cd_gw (.instanceMethod ⟨"CapabilityDomains", "slot", "(II)I"⟩) = true := cd_tw 126 (by decide +kernel) (by decide +kernel)
theorem se_Cd_slot : (.selects "CapabilityDomains" ⟨"CapabilityDomains", "slot", "(II)I"⟩ ⟨"CapabilityDomains", "slot", "(II)I"⟩ : Cond) ∈ lw_tbl ∧ cd_gw (.selects "CapabilityDomains" ⟨"CapabilityDomains", "slot", "(II)I"⟩ ⟨"CapabilityDomains", "slot", "(II)I"⟩) = true := cd_tw 127 (by decide +kernel) (by decide +kernel)
theorem cw_Cd_slot : (.code ⟨"CapabilityDomains", "slot", "(II)I"⟩ prog_1_method_19_code 4 (some .int) : Cond) ∈ lw_tbl ∧ cd_gw (.code ⟨"CapabilityDomains", "slot", "(II)I"⟩ prog_1_method_19_code 4 (some .int)) = true := cd_tw 128 (by decide +kernel) (by decide +kernel)
theorem ml_Cd_81 : (.methodLink "CapabilityDomains" 81 ⟨"CapabilityDomains", "isSlot", "(I)Z"⟩ : Cond) ∈ lw_tbl ∧ cd_gw (.methodLink "CapabilityDomains" 81 ⟨"CapabilityDomains", "isSlot", "(I)Z"⟩) = true := cd_tw 129 (by decide +kernel) (by decide +kernel)
theorem st_Cd_isSlot : (.static ⟨"CapabilityDomains", "isSlot", "(I)Z"⟩ : Cond) ∈ lw_tbl ∧ cd_gw (.static ⟨"CapabilityDomains", "isSlot", "(I)Z"⟩) = true := cd_tw 130 (by decide +kernel) (by decide +kernel)
theorem cw_Cd_isSlot : (.code ⟨"CapabilityDomains", "isSlot", "(I)Z"⟩ prog_1_method_25_code 1 (some .boolean) : Cond) ∈ lw_tbl ∧ cd_gw (.code ⟨"CapabilityDomains", "isSlot", "(I)Z"⟩ prog_1_method_25_code 1 (some .boolean)) = true := cd_tw 131 (by decide +kernel) (by decide +kernel)
theorem ml_La_144 : (.methodLink "CapabilityDomainsLaw" 144 ⟨"CapabilityDomains", "count", "(I)I"⟩ : Cond) ∈ lw_tbl ∧ cd_gw (.methodLink "CapabilityDomainsLaw" 144 ⟨"CapabilityDomains", "count", "(I)I"⟩) = true := cd_tw 132 (by decide +kernel) (by decide +kernel)
theorem im_Cd_count : (.instanceMethod ⟨"CapabilityDomains", "count", "(I)I"⟩ : Cond) ∈ lw_tbl ∧ cd_gw (.instanceMethod ⟨"CapabilityDomains", "count", "(I)I"⟩) = true := cd_tw 133 (by decide +kernel) (by decide +kernel)
theorem se_Cd_count : (.selects "CapabilityDomains" ⟨"CapabilityDomains", "count", "(I)I"⟩ ⟨"CapabilityDomains", "count", "(I)I"⟩ : Cond) ∈ lw_tbl ∧ cd_gw (.selects "CapabilityDomains" ⟨"CapabilityDomains", "count", "(I)I"⟩ ⟨"CapabilityDomains", "count", "(I)I"⟩) = true := cd_tw 134 (by decide +kernel) (by decide +kernel)
theorem cw_Cd_count : (.code ⟨"CapabilityDomains", "count", "(I)I"⟩ prog_1_method_20_code 2 (some .int) : Cond) ∈ lw_tbl ∧ cd_gw (.code ⟨"CapabilityDomains", "count", "(I)I"⟩ prog_1_method_20_code 2 (some .int)) = true := cd_tw 135 (by decide +kernel) (by decide +kernel)
theorem ml_Cd_230 : (.methodLink "CapabilityDomains" 230 ⟨"CapabilityDomains", "livingDomains", "()I"⟩ : Cond) ∈ lw_tbl ∧ cd_gw (.methodLink "CapabilityDomains" 230 ⟨"CapabilityDomains", "livingDomains", "()I"⟩) = true := cd_tw 136 (by decide +kernel) (by decide +kernel)
theorem im_Cd_livingDomains : (.instanceMethod ⟨"CapabilityDomains", "livingDomains", "()I"⟩ : Cond) ∈ lw_tbl ∧ cd_gw (.instanceMethod ⟨"CapabilityDomains", "livingDomains", "()I"⟩) = true := cd_tw 138 (by decide +kernel) (by decide +kernel)
theorem cw_Cd_livingDomains : (.code ⟨"CapabilityDomains", "livingDomains", "()I"⟩ prog_1_method_21_code 3 (some .int) : Cond) ∈ lw_tbl ∧ cd_gw (.code ⟨"CapabilityDomains", "livingDomains", "()I"⟩ prog_1_method_21_code 3 (some .int)) = true := cd_tw 139 (by decide +kernel) (by decide +kernel)
theorem ml_Cd_236 : (.methodLink "CapabilityDomains" 236 ⟨"CapabilityDomains", "livingCapabilities", "()I"⟩ : Cond) ∈ lw_tbl ∧ cd_gw (.methodLink "CapabilityDomains" 236 ⟨"CapabilityDomains", "livingCapabilities", "()I"⟩) = true := cd_tw 140 (by decide +kernel) (by decide +kernel)
theorem im_Cd_livingCapabilities : (.instanceMethod ⟨"CapabilityDomains", "livingCapabilities", "()I"⟩ : Cond) ∈ lw_tbl ∧ cd_gw (.instanceMethod ⟨"CapabilityDomains", "livingCapabilities", "()I"⟩) = true := cd_tw 142 (by decide +kernel) (by decide +kernel)
theorem cw_Cd_livingCapabilities : (.code ⟨"CapabilityDomains", "livingCapabilities", "()I"⟩ prog_1_method_22_code 3 (some .int) : Cond) ∈ lw_tbl ∧ cd_gw (.code ⟨"CapabilityDomains", "livingCapabilities", "()I"⟩ prog_1_method_22_code 3 (some .int)) = true := cd_tw 143 (by decide +kernel) (by decide +kernel)
theorem ml_Cd_239 : (.methodLink "CapabilityDomains" 239 ⟨"CapabilityDomains", "objectsOf", "(I)I"⟩ : Cond) ∈ lw_tbl ∧ cd_gw (.methodLink "CapabilityDomains" 239 ⟨"CapabilityDomains", "objectsOf", "(I)I"⟩) = true := cd_tw 144 (by decide +kernel) (by decide +kernel)
theorem im_Cd_objectsOf : (.instanceMethod ⟨"CapabilityDomains", "objectsOf", "(I)I"⟩ : Cond) ∈ lw_tbl ∧ cd_gw (.instanceMethod ⟨"CapabilityDomains", "objectsOf", "(I)I"⟩) = true := cd_tw 146 (by decide +kernel) (by decide +kernel)
theorem cw_Cd_objectsOf : (.code ⟨"CapabilityDomains", "objectsOf", "(I)I"⟩ prog_1_method_23_code 2 (some .int) : Cond) ∈ lw_tbl ∧ cd_gw (.code ⟨"CapabilityDomains", "objectsOf", "(I)I"⟩ prog_1_method_23_code 2 (some .int)) = true := cd_tw 147 (by decide +kernel) (by decide +kernel)
theorem ml_Cd_44 : (.methodLink "CapabilityDomains" 44 ⟨"CapabilityDomains$Domain", "objectCount", "()I"⟩ : Cond) ∈ lw_tbl ∧ cd_gw (.methodLink "CapabilityDomains" 44 ⟨"CapabilityDomains$Domain", "objectCount", "()I"⟩) = true := cd_tw 148 (by decide +kernel) (by decide +kernel)
theorem im_Do_objectCount : (.instanceMethod ⟨"CapabilityDomains$Domain", "objectCount", "()I"⟩ : Cond) ∈ lw_tbl ∧ cd_gw (.instanceMethod ⟨"CapabilityDomains$Domain", "objectCount", "()I"⟩) = true := cd_tw 149 (by decide +kernel) (by decide +kernel)
theorem se_Do_objectCount : (.selects "CapabilityDomains$Domain" ⟨"CapabilityDomains$Domain", "objectCount", "()I"⟩ ⟨"CapabilityDomains$Domain", "objectCount", "()I"⟩ : Cond) ∈ lw_tbl ∧ cd_gw (.selects "CapabilityDomains$Domain" ⟨"CapabilityDomains$Domain", "objectCount", "()I"⟩ ⟨"CapabilityDomains$Domain", "objectCount", "()I"⟩) = true := cd_tw 150 (by decide +kernel) (by decide +kernel)
theorem cw_Do_objectCount : (.code ⟨"CapabilityDomains$Domain", "objectCount", "()I"⟩ prog_3_method_3_code 3 (some .int) : Cond) ∈ lw_tbl ∧ cd_gw (.code ⟨"CapabilityDomains$Domain", "objectCount", "()I"⟩ prog_3_method_3_code 3 (some .int)) = true := cd_tw 151 (by decide +kernel) (by decide +kernel)
theorem ml_La_76 : (.methodLink "CapabilityDomainsLaw" 76 ⟨"CapabilityDomainsLaw", "domain", "(LCapabilityDomains;[J)I"⟩ : Cond) ∈ lw_tbl ∧ cd_gw (.methodLink "CapabilityDomainsLaw" 76 ⟨"CapabilityDomainsLaw", "domain", "(LCapabilityDomains;[J)I"⟩) = true := cd_tw 152 (by decide +kernel) (by decide +kernel)
theorem st_La_domain : (.static ⟨"CapabilityDomainsLaw", "domain", "(LCapabilityDomains;[J)I"⟩ : Cond) ∈ lw_tbl ∧ cd_gw (.static ⟨"CapabilityDomainsLaw", "domain", "(LCapabilityDomains;[J)I"⟩) = true := cd_tw 153 (by decide +kernel) (by decide +kernel)
theorem cw_La_domain : (.codeWith ⟨"CapabilityDomainsLaw", "domain", "(LCapabilityDomains;[J)I"⟩ method_3_code 3 (some .int) [(0, 8, 11, 13)] : Cond) ∈ lw_tbl ∧ cd_gw (.codeWith ⟨"CapabilityDomainsLaw", "domain", "(LCapabilityDomains;[J)I"⟩ method_3_code 3 (some .int) [(0, 8, 11, 13)]) = true := cd_tw 154 (by decide +kernel) (by decide +kernel)
theorem kl_La_13 : (.classLink "CapabilityDomainsLaw" 13 "java/lang/IllegalStateException" : Cond) ∈ lw_tbl ∧ cd_gw (.classLink "CapabilityDomainsLaw" 13 "java/lang/IllegalStateException") = true := cd_tw 155 (by decide +kernel) (by decide +kernel)
theorem ml_La_7 : (.methodLink "CapabilityDomainsLaw" 7 ⟨"CapabilityDomains", "domain", "()I"⟩ : Cond) ∈ lw_tbl ∧ cd_gw (.methodLink "CapabilityDomainsLaw" 7 ⟨"CapabilityDomains", "domain", "()I"⟩) = true := cd_tw 156 (by decide +kernel) (by decide +kernel)
theorem im_Cd_domain : (.instanceMethod ⟨"CapabilityDomains", "domain", "()I"⟩ : Cond) ∈ lw_tbl ∧ cd_gw (.instanceMethod ⟨"CapabilityDomains", "domain", "()I"⟩) = true := cd_tw 157 (by decide +kernel) (by decide +kernel)
theorem se_Cd_domain : (.selects "CapabilityDomains" ⟨"CapabilityDomains", "domain", "()I"⟩ ⟨"CapabilityDomains", "domain", "()I"⟩ : Cond) ∈ lw_tbl ∧ cd_gw (.selects "CapabilityDomains" ⟨"CapabilityDomains", "domain", "()I"⟩ ⟨"CapabilityDomains", "domain", "()I"⟩) = true := cd_tw 158 (by decide +kernel) (by decide +kernel)
theorem cw_Cd_domain : (.code ⟨"CapabilityDomains", "domain", "()I"⟩ prog_1_method_2_code 1 (some .int) : Cond) ∈ lw_tbl ∧ cd_gw (.code ⟨"CapabilityDomains", "domain", "()I"⟩ prog_1_method_2_code 1 (some .int)) = true := cd_tw 159 (by decide +kernel) (by decide +kernel)
theorem kl_Cd_32 : (.classLink "CapabilityDomains" 32 "java/lang/IllegalStateException" : Cond) ∈ lw_tbl ∧ cd_gw (.classLink "CapabilityDomains" 32 "java/lang/IllegalStateException") = true := cd_tw 160 (by decide +kernel) (by decide +kernel)
theorem ia_IllegalStateException : (.instantiable "java/lang/IllegalStateException" 6 : Cond) ∈ lw_tbl ∧ cd_gw (.instantiable "java/lang/IllegalStateException" 6) = true := cd_tw 161 (by decide +kernel) (by decide +kernel)
theorem ca_IllegalStateException : (.castable "java/lang/IllegalStateException" "java/lang/IllegalStateException" : Cond) ∈ lw_tbl ∧ cd_gw (.castable "java/lang/IllegalStateException" "java/lang/IllegalStateException") = true := cd_tw 162 (by decide +kernel) (by decide +kernel)
theorem lk_Throwable_198 : (.fieldLink "java/lang/Throwable" 198 "java/lang/Throwable" "backtrace" "Ljava/lang/Object;" : Cond) ∈ lw_tbl ∧ cd_gw (.fieldLink "java/lang/Throwable" 198 "java/lang/Throwable" "backtrace" "Ljava/lang/Object;") = true := cd_tw 181 (by decide +kernel) (by decide +kernel)
theorem ml_Throwable_1 : (.methodLink "java/lang/Throwable" 1 ⟨"java/lang/Object", "<init>", "()V"⟩ : Cond) ∈ lw_tbl ∧ cd_gw (.methodLink "java/lang/Throwable" 1 ⟨"java/lang/Object", "<init>", "()V"⟩) = true := cd_tw 185 (by decide +kernel) (by decide +kernel)
theorem lk_Throwable_13 : (.fieldLink "java/lang/Throwable" 13 "java/lang/Throwable" "UNASSIGNED_STACK" "[Ljava/lang/StackTraceElement;" : Cond) ∈ lw_tbl ∧ cd_gw (.fieldLink "java/lang/Throwable" 13 "java/lang/Throwable" "UNASSIGNED_STACK" "[Ljava/lang/StackTraceElement;") = true := cd_tw 186 (by decide +kernel) (by decide +kernel)
theorem lk_Throwable_20 : (.fieldLink "java/lang/Throwable" 20 "java/lang/Throwable" "SUPPRESSED_SENTINEL" "Ljava/util/List;" : Cond) ∈ lw_tbl ∧ cd_gw (.fieldLink "java/lang/Throwable" 20 "java/lang/Throwable" "SUPPRESSED_SENTINEL" "Ljava/util/List;") = true := cd_tw 188 (by decide +kernel) (by decide +kernel)
theorem ml_Throwable_27 : (.methodLink "java/lang/Throwable" 27 ⟨"java/lang/Throwable", "fillInStackTrace", "()Ljava/lang/Throwable;"⟩ : Cond) ∈ lw_tbl ∧ cd_gw (.methodLink "java/lang/Throwable" 27 ⟨"java/lang/Throwable", "fillInStackTrace", "()Ljava/lang/Throwable;"⟩) = true := cd_tw 190 (by decide +kernel) (by decide +kernel)
theorem ml_Throwable_202 : (.methodLink "java/lang/Throwable" 202 ⟨"java/lang/Throwable", "fillInStackTrace", "(I)Ljava/lang/Throwable;"⟩ : Cond) ∈ lw_tbl ∧ cd_gw (.methodLink "java/lang/Throwable" 202 ⟨"java/lang/Throwable", "fillInStackTrace", "(I)Ljava/lang/Throwable;"⟩) = true := cd_tw 199 (by decide +kernel) (by decide +kernel)
theorem ia_Throwable : (.instantiable "java/lang/Throwable" 6 : Cond) ∈ lw_tbl ∧ cd_gw (.instantiable "java/lang/Throwable" 6) = true := cd_tw 202 (by decide +kernel) (by decide +kernel)
theorem ml_Cd_36 : (.methodLink "CapabilityDomains" 36 ⟨"java/lang/IllegalStateException", "<init>", "(Ljava/lang/String;)V"⟩ : Cond) ∈ lw_tbl ∧ cd_gw (.methodLink "CapabilityDomains" 36 ⟨"java/lang/IllegalStateException", "<init>", "(Ljava/lang/String;)V"⟩) = true := cd_tw 205 (by decide +kernel) (by decide +kernel)
theorem ml_IllegalStateException_7 : (.methodLink "java/lang/IllegalStateException" 7 ⟨"java/lang/RuntimeException", "<init>", "(Ljava/lang/String;)V"⟩ : Cond) ∈ lw_tbl ∧ cd_gw (.methodLink "java/lang/IllegalStateException" 7 ⟨"java/lang/RuntimeException", "<init>", "(Ljava/lang/String;)V"⟩) = true := cd_tw 208 (by decide +kernel) (by decide +kernel)
theorem ml_RuntimeException_7 : (.methodLink "java/lang/RuntimeException" 7 ⟨"java/lang/Exception", "<init>", "(Ljava/lang/String;)V"⟩ : Cond) ∈ lw_tbl ∧ cd_gw (.methodLink "java/lang/RuntimeException" 7 ⟨"java/lang/Exception", "<init>", "(Ljava/lang/String;)V"⟩) = true := cd_tw 211 (by decide +kernel) (by decide +kernel)
theorem ml_Exception_7 : (.methodLink "java/lang/Exception" 7 ⟨"java/lang/Throwable", "<init>", "(Ljava/lang/String;)V"⟩ : Cond) ∈ lw_tbl ∧ cd_gw (.methodLink "java/lang/Exception" 7 ⟨"java/lang/Throwable", "<init>", "(Ljava/lang/String;)V"⟩) = true := cd_tw 214 (by decide +kernel) (by decide +kernel)
theorem lk_Throwable_31 : (.fieldLink "java/lang/Throwable" 31 "java/lang/Throwable" "detailMessage" "Ljava/lang/String;" : Cond) ∈ lw_tbl ∧ cd_gw (.fieldLink "java/lang/Throwable" 31 "java/lang/Throwable" "detailMessage" "Ljava/lang/String;") = true := cd_tw 218 (by decide +kernel) (by decide +kernel)
theorem lk_Throwable_7 : (.fieldLink "java/lang/Throwable" 7 "java/lang/Throwable" "cause" "Ljava/lang/Throwable;" : Cond) ∈ lw_tbl ∧ cd_gw (.fieldLink "java/lang/Throwable" 7 "java/lang/Throwable" "cause" "Ljava/lang/Throwable;") = true := cd_tw 219 (by decide +kernel) (by decide +kernel)
theorem lk_Throwable_17 : (.fieldLink "java/lang/Throwable" 17 "java/lang/Throwable" "stackTrace" "[Ljava/lang/StackTraceElement;" : Cond) ∈ lw_tbl ∧ cd_gw (.fieldLink "java/lang/Throwable" 17 "java/lang/Throwable" "stackTrace" "[Ljava/lang/StackTraceElement;") = true := cd_tw 220 (by decide +kernel) (by decide +kernel)
theorem lk_Throwable_24 : (.fieldLink "java/lang/Throwable" 24 "java/lang/Throwable" "suppressedExceptions" "Ljava/util/List;" : Cond) ∈ lw_tbl ∧ cd_gw (.fieldLink "java/lang/Throwable" 24 "java/lang/Throwable" "suppressedExceptions" "Ljava/util/List;") = true := cd_tw 221 (by decide +kernel) (by decide +kernel)
theorem ia_Do : (.instantiable "CapabilityDomains$Domain" 3 : Cond) ∈ lw_tbl ∧ cd_gw (.instantiable "CapabilityDomains$Domain" 3) = true := cd_tw 231 (by decide +kernel) (by decide +kernel)
theorem ml_Cd_39 : (.methodLink "CapabilityDomains" 39 ⟨"CapabilityDomains$Domain", "<init>", "()V"⟩ : Cond) ∈ lw_tbl ∧ cd_gw (.methodLink "CapabilityDomains" 39 ⟨"CapabilityDomains$Domain", "<init>", "()V"⟩) = true := cd_tw 232 (by decide +kernel) (by decide +kernel)
theorem im_Do_init : (.instanceMethod ⟨"CapabilityDomains$Domain", "<init>", "()V"⟩ : Cond) ∈ lw_tbl ∧ cd_gw (.instanceMethod ⟨"CapabilityDomains$Domain", "<init>", "()V"⟩) = true := cd_tw 233 (by decide +kernel) (by decide +kernel)
theorem cw_Do_init : (.code ⟨"CapabilityDomains$Domain", "<init>", "()V"⟩ prog_3_method_1_code 2 none : Cond) ∈ lw_tbl ∧ cd_gw (.code ⟨"CapabilityDomains$Domain", "<init>", "()V"⟩ prog_3_method_1_code 2 none) = true := cd_tw 234 (by decide +kernel) (by decide +kernel)
theorem ml_Do_3 : (.methodLink "CapabilityDomains$Domain" 3 ⟨"java/lang/Object", "<init>", "()V"⟩ : Cond) ∈ lw_tbl ∧ cd_gw (.methodLink "CapabilityDomains$Domain" 3 ⟨"java/lang/Object", "<init>", "()V"⟩) = true := cd_tw 235 (by decide +kernel) (by decide +kernel)
theorem kl_Do_9 : (.classLink "CapabilityDomains$Domain" 9 "CapabilityDomains$DomainObject" : Cond) ∈ lw_tbl ∧ cd_gw (.classLink "CapabilityDomains$Domain" 9 "CapabilityDomains$DomainObject") = true := cd_tw 236 (by decide +kernel) (by decide +kernel)
theorem ia_Ob : (.instantiable "CapabilityDomains$DomainObject" 2 : Cond) ∈ lw_tbl ∧ cd_gw (.instantiable "CapabilityDomains$DomainObject" 2) = true := cd_tw 238 (by decide +kernel) (by decide +kernel)
theorem ml_Do_17 : (.methodLink "CapabilityDomains$Domain" 17 ⟨"CapabilityDomains$DomainObject", "<init>", "()V"⟩ : Cond) ∈ lw_tbl ∧ cd_gw (.methodLink "CapabilityDomains$Domain" 17 ⟨"CapabilityDomains$DomainObject", "<init>", "()V"⟩) = true := cd_tw 239 (by decide +kernel) (by decide +kernel)
theorem im_Ob_init : (.instanceMethod ⟨"CapabilityDomains$DomainObject", "<init>", "()V"⟩ : Cond) ∈ lw_tbl ∧ cd_gw (.instanceMethod ⟨"CapabilityDomains$DomainObject", "<init>", "()V"⟩) = true := cd_tw 240 (by decide +kernel) (by decide +kernel)
theorem cw_Ob_init : (.code ⟨"CapabilityDomains$DomainObject", "<init>", "()V"⟩ prog_4_method_1_code 2 none : Cond) ∈ lw_tbl ∧ cd_gw (.code ⟨"CapabilityDomains$DomainObject", "<init>", "()V"⟩ prog_4_method_1_code 2 none) = true := cd_tw 241 (by decide +kernel) (by decide +kernel)
theorem ml_Ob_3 : (.methodLink "CapabilityDomains$DomainObject" 3 ⟨"java/lang/Object", "<init>", "()V"⟩ : Cond) ∈ lw_tbl ∧ cd_gw (.methodLink "CapabilityDomains$DomainObject" 3 ⟨"java/lang/Object", "<init>", "()V"⟩) = true := cd_tw 242 (by decide +kernel) (by decide +kernel)
theorem kl_Ob_9 : (.classLink "CapabilityDomains$DomainObject" 9 "CapabilityDomains$Field" : Cond) ∈ lw_tbl ∧ cd_gw (.classLink "CapabilityDomains$DomainObject" 9 "CapabilityDomains$Field") = true := cd_tw 243 (by decide +kernel) (by decide +kernel)
theorem ia_Fi : (.instantiable "CapabilityDomains$Field" 3 : Cond) ∈ lw_tbl ∧ cd_gw (.instantiable "CapabilityDomains$Field" 3) = true := cd_tw 245 (by decide +kernel) (by decide +kernel)
theorem ml_Ob_17 : (.methodLink "CapabilityDomains$DomainObject" 17 ⟨"CapabilityDomains$Field", "<init>", "()V"⟩ : Cond) ∈ lw_tbl ∧ cd_gw (.methodLink "CapabilityDomains$DomainObject" 17 ⟨"CapabilityDomains$Field", "<init>", "()V"⟩) = true := cd_tw 246 (by decide +kernel) (by decide +kernel)
theorem im_Fi_init : (.instanceMethod ⟨"CapabilityDomains$Field", "<init>", "()V"⟩ : Cond) ∈ lw_tbl ∧ cd_gw (.instanceMethod ⟨"CapabilityDomains$Field", "<init>", "()V"⟩) = true := cd_tw 247 (by decide +kernel) (by decide +kernel)
theorem cw_Fi_init : (.code ⟨"CapabilityDomains$Field", "<init>", "()V"⟩ prog_5_method_1_code 1 none : Cond) ∈ lw_tbl ∧ cd_gw (.code ⟨"CapabilityDomains$Field", "<init>", "()V"⟩ prog_5_method_1_code 1 none) = true := cd_tw 248 (by decide +kernel) (by decide +kernel)
theorem ml_Fi_3 : (.methodLink "CapabilityDomains$Field" 3 ⟨"java/lang/Object", "<init>", "()V"⟩ : Cond) ∈ lw_tbl ∧ cd_gw (.methodLink "CapabilityDomains$Field" 3 ⟨"java/lang/Object", "<init>", "()V"⟩) = true := cd_tw 249 (by decide +kernel) (by decide +kernel)
theorem lk_Fi_19 : (.fieldLink "CapabilityDomains$Field" 19 "CapabilityDomains$Field" "number" "I" : Cond) ∈ lw_tbl ∧ cd_gw (.fieldLink "CapabilityDomains$Field" 19 "CapabilityDomains$Field" "number" "I") = true := cd_tw 250 (by decide +kernel) (by decide +kernel)
theorem lk_Cd_60 : (.fieldLink "CapabilityDomains" 60 "CapabilityDomains$Field" "number" "I" : Cond) ∈ lw_tbl ∧ cd_gw (.fieldLink "CapabilityDomains" 60 "CapabilityDomains$Field" "number" "I") = true := cd_tw 251 (by decide +kernel) (by decide +kernel)
theorem lk_Re_79 : (.fieldLink "CapabilityDomains$Reach" 79 "CapabilityDomains$Field" "number" "I" : Cond) ∈ lw_tbl ∧ cd_gw (.fieldLink "CapabilityDomains$Reach" 79 "CapabilityDomains$Field" "number" "I") = true := cd_tw 252 (by decide +kernel) (by decide +kernel)
theorem lk_Fi_9 : (.fieldLink "CapabilityDomains$Field" 9 "CapabilityDomains$Field" "link" "I" : Cond) ∈ lw_tbl ∧ cd_gw (.fieldLink "CapabilityDomains$Field" 9 "CapabilityDomains$Field" "link" "I") = true := cd_tw 253 (by decide +kernel) (by decide +kernel)
theorem lk_Ob_26 : (.fieldLink "CapabilityDomains$DomainObject" 26 "CapabilityDomains$Field" "link" "I" : Cond) ∈ lw_tbl ∧ cd_gw (.fieldLink "CapabilityDomains$DomainObject" 26 "CapabilityDomains$Field" "link" "I") = true := cd_tw 254 (by decide +kernel) (by decide +kernel)
theorem lk_Re_50 : (.fieldLink "CapabilityDomains$Reach" 50 "CapabilityDomains$Field" "link" "I" : Cond) ∈ lw_tbl ∧ cd_gw (.fieldLink "CapabilityDomains$Reach" 50 "CapabilityDomains$Field" "link" "I") = true := cd_tw 255 (by decide +kernel) (by decide +kernel)
theorem lk_Cd_218 : (.fieldLink "CapabilityDomains" 218 "CapabilityDomains$Field" "link" "I" : Cond) ∈ lw_tbl ∧ cd_gw (.fieldLink "CapabilityDomains" 218 "CapabilityDomains$Field" "link" "I") = true := cd_tw 256 (by decide +kernel) (by decide +kernel)
theorem lk_Fi_15 : (.fieldLink "CapabilityDomains$Field" 15 "CapabilityDomains$Field" "capability" "LCapabilityDomains$Capability;" : Cond) ∈ lw_tbl ∧ cd_gw (.fieldLink "CapabilityDomains$Field" 15 "CapabilityDomains$Field" "capability" "LCapabilityDomains$Capability;") = true := cd_tw 257 (by decide +kernel) (by decide +kernel)
theorem lk_Re_71 : (.fieldLink "CapabilityDomains$Reach" 71 "CapabilityDomains$Field" "capability" "LCapabilityDomains$Capability;" : Cond) ∈ lw_tbl ∧ cd_gw (.fieldLink "CapabilityDomains$Reach" 71 "CapabilityDomains$Field" "capability" "LCapabilityDomains$Capability;") = true := cd_tw 258 (by decide +kernel) (by decide +kernel)
theorem lk_Cd_188 : (.fieldLink "CapabilityDomains" 188 "CapabilityDomains$Field" "capability" "LCapabilityDomains$Capability;" : Cond) ∈ lw_tbl ∧ cd_gw (.fieldLink "CapabilityDomains" 188 "CapabilityDomains$Field" "capability" "LCapabilityDomains$Capability;") = true := cd_tw 259 (by decide +kernel) (by decide +kernel)
theorem lk_Ob_18 : (.fieldLink "CapabilityDomains$DomainObject" 18 "CapabilityDomains$DomainObject" "there" "Z" : Cond) ∈ lw_tbl ∧ cd_gw (.fieldLink "CapabilityDomains$DomainObject" 18 "CapabilityDomains$DomainObject" "there" "Z") = true := cd_tw 267 (by decide +kernel) (by decide +kernel)
theorem lk_Do_24 : (.fieldLink "CapabilityDomains$Domain" 24 "CapabilityDomains$DomainObject" "there" "Z" : Cond) ∈ lw_tbl ∧ cd_gw (.fieldLink "CapabilityDomains$Domain" 24 "CapabilityDomains$DomainObject" "there" "Z") = true := cd_tw 268 (by decide +kernel) (by decide +kernel)
theorem lk_Ob_11 : (.fieldLink "CapabilityDomains$DomainObject" 11 "CapabilityDomains$DomainObject" "fields" "[LCapabilityDomains$Field;" : Cond) ∈ lw_tbl ∧ cd_gw (.fieldLink "CapabilityDomains$DomainObject" 11 "CapabilityDomains$DomainObject" "fields" "[LCapabilityDomains$Field;") = true := cd_tw 269 (by decide +kernel) (by decide +kernel)
theorem lk_Re_44 : (.fieldLink "CapabilityDomains$Reach" 44 "CapabilityDomains$DomainObject" "fields" "[LCapabilityDomains$Field;" : Cond) ∈ lw_tbl ∧ cd_gw (.fieldLink "CapabilityDomains$Reach" 44 "CapabilityDomains$DomainObject" "fields" "[LCapabilityDomains$Field;") = true := cd_tw 270 (by decide +kernel) (by decide +kernel)
theorem lk_Cd_209 : (.fieldLink "CapabilityDomains" 209 "CapabilityDomains$DomainObject" "fields" "[LCapabilityDomains$Field;" : Cond) ∈ lw_tbl ∧ cd_gw (.fieldLink "CapabilityDomains" 209 "CapabilityDomains$DomainObject" "fields" "[LCapabilityDomains$Field;") = true := cd_tw 271 (by decide +kernel) (by decide +kernel)
theorem kl_Do_18 : (.classLink "CapabilityDomains$Domain" 18 "CapabilityDomains$Capability" : Cond) ∈ lw_tbl ∧ cd_gw (.classLink "CapabilityDomains$Domain" 18 "CapabilityDomains$Capability") = true := cd_tw 277 (by decide +kernel) (by decide +kernel)
theorem lk_Ca_31 : (.fieldLink "CapabilityDomains$Capability" 31 "CapabilityDomains$Domain" "ended" "Z" : Cond) ∈ lw_tbl ∧ cd_gw (.fieldLink "CapabilityDomains$Capability" 31 "CapabilityDomains$Domain" "ended" "Z") = true := cd_tw 278 (by decide +kernel) (by decide +kernel)
theorem lk_Do_35 : (.fieldLink "CapabilityDomains$Domain" 35 "CapabilityDomains$Domain" "ended" "Z" : Cond) ∈ lw_tbl ∧ cd_gw (.fieldLink "CapabilityDomains$Domain" 35 "CapabilityDomains$Domain" "ended" "Z") = true := cd_tw 279 (by decide +kernel) (by decide +kernel)
theorem lk_Cd_224 : (.fieldLink "CapabilityDomains" 224 "CapabilityDomains$Domain" "ended" "Z" : Cond) ∈ lw_tbl ∧ cd_gw (.fieldLink "CapabilityDomains" 224 "CapabilityDomains$Domain" "ended" "Z") = true := cd_tw 280 (by decide +kernel) (by decide +kernel)
theorem lk_Do_11 : (.fieldLink "CapabilityDomains$Domain" 11 "CapabilityDomains$Domain" "objects" "[LCapabilityDomains$DomainObject;" : Cond) ∈ lw_tbl ∧ cd_gw (.fieldLink "CapabilityDomains$Domain" 11 "CapabilityDomains$Domain" "objects" "[LCapabilityDomains$DomainObject;") = true := cd_tw 281 (by decide +kernel) (by decide +kernel)
theorem lk_Re_40 : (.fieldLink "CapabilityDomains$Reach" 40 "CapabilityDomains$Domain" "objects" "[LCapabilityDomains$DomainObject;" : Cond) ∈ lw_tbl ∧ cd_gw (.fieldLink "CapabilityDomains$Reach" 40 "CapabilityDomains$Domain" "objects" "[LCapabilityDomains$DomainObject;") = true := cd_tw 282 (by decide +kernel) (by decide +kernel)
theorem lk_Cd_205 : (.fieldLink "CapabilityDomains" 205 "CapabilityDomains$Domain" "objects" "[LCapabilityDomains$DomainObject;" : Cond) ∈ lw_tbl ∧ cd_gw (.fieldLink "CapabilityDomains" 205 "CapabilityDomains$Domain" "objects" "[LCapabilityDomains$DomainObject;") = true := cd_tw 283 (by decide +kernel) (by decide +kernel)
theorem lk_Do_20 : (.fieldLink "CapabilityDomains$Domain" 20 "CapabilityDomains$Domain" "slots" "[LCapabilityDomains$Capability;" : Cond) ∈ lw_tbl ∧ cd_gw (.fieldLink "CapabilityDomains$Domain" 20 "CapabilityDomains$Domain" "slots" "[LCapabilityDomains$Capability;") = true := cd_tw 284 (by decide +kernel) (by decide +kernel)
theorem lk_Cd_227 : (.fieldLink "CapabilityDomains" 227 "CapabilityDomains$Domain" "slots" "[LCapabilityDomains$Capability;" : Cond) ∈ lw_tbl ∧ cd_gw (.fieldLink "CapabilityDomains" 227 "CapabilityDomains$Domain" "slots" "[LCapabilityDomains$Capability;") = true := cd_tw 285 (by decide +kernel) (by decide +kernel)
theorem ml_La_85 : (.methodLink "CapabilityDomainsLaw" 85 ⟨"CapabilityDomainsLaw", "object", "(LCapabilityDomains;I[J)I"⟩ : Cond) ∈ lw_tbl ∧ cd_gw (.methodLink "CapabilityDomainsLaw" 85 ⟨"CapabilityDomainsLaw", "object", "(LCapabilityDomains;I[J)I"⟩) = true := cd_tw 293 (by decide +kernel) (by decide +kernel)
theorem st_La_object : (.static ⟨"CapabilityDomainsLaw", "object", "(LCapabilityDomains;I[J)I"⟩ : Cond) ∈ lw_tbl ∧ cd_gw (.static ⟨"CapabilityDomainsLaw", "object", "(LCapabilityDomains;I[J)I"⟩) = true := cd_tw 294 (by decide +kernel) (by decide +kernel)
theorem cw_La_object : (.codeWith ⟨"CapabilityDomainsLaw", "object", "(LCapabilityDomains;I[J)I"⟩ method_4_code 4 (some .int) [(0, 9, 12, 19), (0, 9, 15, 13), (0, 9, 18, 21)] : Cond) ∈ lw_tbl ∧ cd_gw (.codeWith ⟨"CapabilityDomainsLaw", "object", "(LCapabilityDomains;I[J)I"⟩ method_4_code 4 (some .int) [(0, 9, 12, 19), (0, 9, 15, 13), (0, 9, 18, 21)]) = true := cd_tw 295 (by decide +kernel) (by decide +kernel)
theorem kl_La_19 : (.classLink "CapabilityDomainsLaw" 19 "java/lang/IllegalArgumentException" : Cond) ∈ lw_tbl ∧ cd_gw (.classLink "CapabilityDomainsLaw" 19 "java/lang/IllegalArgumentException") = true := cd_tw 296 (by decide +kernel) (by decide +kernel)
theorem kl_La_21 : (.classLink "CapabilityDomainsLaw" 21 "java/lang/ArithmeticException" : Cond) ∈ lw_tbl ∧ cd_gw (.classLink "CapabilityDomainsLaw" 21 "java/lang/ArithmeticException") = true := cd_tw 297 (by decide +kernel) (by decide +kernel)
theorem ml_La_15 : (.methodLink "CapabilityDomainsLaw" 15 ⟨"CapabilityDomains", "object", "(I)I"⟩ : Cond) ∈ lw_tbl ∧ cd_gw (.methodLink "CapabilityDomainsLaw" 15 ⟨"CapabilityDomains", "object", "(I)I"⟩) = true := cd_tw 298 (by decide +kernel) (by decide +kernel)
theorem im_Cd_object : (.instanceMethod ⟨"CapabilityDomains", "object", "(I)I"⟩ : Cond) ∈ lw_tbl ∧ cd_gw (.instanceMethod ⟨"CapabilityDomains", "object", "(I)I"⟩) = true := cd_tw 299 (by decide +kernel) (by decide +kernel)
theorem se_Cd_object : (.selects "CapabilityDomains" ⟨"CapabilityDomains", "object", "(I)I"⟩ ⟨"CapabilityDomains", "object", "(I)I"⟩ : Cond) ∈ lw_tbl ∧ cd_gw (.selects "CapabilityDomains" ⟨"CapabilityDomains", "object", "(I)I"⟩ ⟨"CapabilityDomains", "object", "(I)I"⟩) = true := cd_tw 300 (by decide +kernel) (by decide +kernel)
theorem cw_Cd_object : (.code ⟨"CapabilityDomains", "object", "(I)I"⟩ prog_1_method_3_code 3 (some .int) : Cond) ∈ lw_tbl ∧ cd_gw (.code ⟨"CapabilityDomains", "object", "(I)I"⟩ prog_1_method_3_code 3 (some .int)) = true := cd_tw 301 (by decide +kernel) (by decide +kernel)
theorem ml_Cd_40 : (.methodLink "CapabilityDomains" 40 ⟨"CapabilityDomains", "livingDomain", "(I)LCapabilityDomains$Domain;"⟩ : Cond) ∈ lw_tbl ∧ cd_gw (.methodLink "CapabilityDomains" 40 ⟨"CapabilityDomains", "livingDomain", "(I)LCapabilityDomains$Domain;"⟩) = true := cd_tw 302 (by decide +kernel) (by decide +kernel)
theorem im_Cd_livingDomain : (.instanceMethod ⟨"CapabilityDomains", "livingDomain", "(I)LCapabilityDomains$Domain;"⟩ : Cond) ∈ lw_tbl ∧ cd_gw (.instanceMethod ⟨"CapabilityDomains", "livingDomain", "(I)LCapabilityDomains$Domain;"⟩) = true := cd_tw 304 (by decide +kernel) (by decide +kernel)
theorem cw_Cd_livingDomain : (.code ⟨"CapabilityDomains", "livingDomain", "(I)LCapabilityDomains$Domain;"⟩ prog_1_method_30_code 2 (some (.object "CapabilityDomains$Domain")) : Cond) ∈ lw_tbl ∧ cd_gw (.code ⟨"CapabilityDomains", "livingDomain", "(I)LCapabilityDomains$Domain;"⟩ prog_1_method_30_code 2 (some (.object "CapabilityDomains$Domain"))) = true := cd_tw 305 (by decide +kernel) (by decide +kernel)
theorem kl_Cd_242 : (.classLink "CapabilityDomains" 242 "java/lang/IllegalArgumentException" : Cond) ∈ lw_tbl ∧ cd_gw (.classLink "CapabilityDomains" 242 "java/lang/IllegalArgumentException") = true := cd_tw 306 (by decide +kernel) (by decide +kernel)
theorem ia_IllegalArgumentException : (.instantiable "java/lang/IllegalArgumentException" 6 : Cond) ∈ lw_tbl ∧ cd_gw (.instantiable "java/lang/IllegalArgumentException" 6) = true := cd_tw 307 (by decide +kernel) (by decide +kernel)
theorem ca_IllegalArgumentException : (.castable "java/lang/IllegalArgumentException" "java/lang/IllegalArgumentException" : Cond) ∈ lw_tbl ∧ cd_gw (.castable "java/lang/IllegalArgumentException" "java/lang/IllegalArgumentException") = true := cd_tw 308 (by decide +kernel) (by decide +kernel)
theorem ml_Cd_246 : (.methodLink "CapabilityDomains" 246 ⟨"java/lang/IllegalArgumentException", "<init>", "(Ljava/lang/String;)V"⟩ : Cond) ∈ lw_tbl ∧ cd_gw (.methodLink "CapabilityDomains" 246 ⟨"java/lang/IllegalArgumentException", "<init>", "(Ljava/lang/String;)V"⟩) = true := cd_tw 316 (by decide +kernel) (by decide +kernel)
theorem ml_IllegalArgumentException_7 : (.methodLink "java/lang/IllegalArgumentException" 7 ⟨"java/lang/RuntimeException", "<init>", "(Ljava/lang/String;)V"⟩ : Cond) ∈ lw_tbl ∧ cd_gw (.methodLink "java/lang/IllegalArgumentException" 7 ⟨"java/lang/RuntimeException", "<init>", "(Ljava/lang/String;)V"⟩) = true := cd_tw 319 (by decide +kernel) (by decide +kernel)
theorem kl_Cd_48 : (.classLink "CapabilityDomains" 48 "java/lang/ArithmeticException" : Cond) ∈ lw_tbl ∧ cd_gw (.classLink "CapabilityDomains" 48 "java/lang/ArithmeticException") = true := cd_tw 323 (by decide +kernel) (by decide +kernel)
theorem ia_ArithmeticException : (.instantiable "java/lang/ArithmeticException" 6 : Cond) ∈ lw_tbl ∧ cd_gw (.instantiable "java/lang/ArithmeticException" 6) = true := cd_tw 324 (by decide +kernel) (by decide +kernel)
theorem ca_ArithmeticException : (.castable "java/lang/ArithmeticException" "java/lang/ArithmeticException" : Cond) ∈ lw_tbl ∧ cd_gw (.castable "java/lang/ArithmeticException" "java/lang/ArithmeticException") = true := cd_tw 325 (by decide +kernel) (by decide +kernel)
theorem ml_Cd_52 : (.methodLink "CapabilityDomains" 52 ⟨"java/lang/ArithmeticException", "<init>", "(Ljava/lang/String;)V"⟩ : Cond) ∈ lw_tbl ∧ cd_gw (.methodLink "CapabilityDomains" 52 ⟨"java/lang/ArithmeticException", "<init>", "(Ljava/lang/String;)V"⟩) = true := cd_tw 333 (by decide +kernel) (by decide +kernel)
theorem ml_ArithmeticException_7 : (.methodLink "java/lang/ArithmeticException" 7 ⟨"java/lang/RuntimeException", "<init>", "(Ljava/lang/String;)V"⟩ : Cond) ∈ lw_tbl ∧ cd_gw (.methodLink "java/lang/ArithmeticException" 7 ⟨"java/lang/RuntimeException", "<init>", "(Ljava/lang/String;)V"⟩) = true := cd_tw 336 (by decide +kernel) (by decide +kernel)
theorem ml_Cd_53 : (.methodLink "CapabilityDomains" 53 ⟨"CapabilityDomains$Domain", "makeObject", "()I"⟩ : Cond) ∈ lw_tbl ∧ cd_gw (.methodLink "CapabilityDomains" 53 ⟨"CapabilityDomains$Domain", "makeObject", "()I"⟩) = true := cd_tw 339 (by decide +kernel) (by decide +kernel)
theorem im_Do_makeObject : (.instanceMethod ⟨"CapabilityDomains$Domain", "makeObject", "()I"⟩ : Cond) ∈ lw_tbl ∧ cd_gw (.instanceMethod ⟨"CapabilityDomains$Domain", "makeObject", "()I"⟩) = true := cd_tw 340 (by decide +kernel) (by decide +kernel)
theorem se_Do_makeObject : (.selects "CapabilityDomains$Domain" ⟨"CapabilityDomains$Domain", "makeObject", "()I"⟩ ⟨"CapabilityDomains$Domain", "makeObject", "()I"⟩ : Cond) ∈ lw_tbl ∧ cd_gw (.selects "CapabilityDomains$Domain" ⟨"CapabilityDomains$Domain", "makeObject", "()I"⟩ ⟨"CapabilityDomains$Domain", "makeObject", "()I"⟩) = true := cd_tw 341 (by decide +kernel) (by decide +kernel)
theorem cw_Do_makeObject : (.code ⟨"CapabilityDomains$Domain", "makeObject", "()I"⟩ prog_3_method_4_code 2 (some .int) : Cond) ∈ lw_tbl ∧ cd_gw (.code ⟨"CapabilityDomains$Domain", "makeObject", "()I"⟩ prog_3_method_4_code 2 (some .int)) = true := cd_tw 342 (by decide +kernel) (by decide +kernel)
theorem ml_Do_28 : (.methodLink "CapabilityDomains$Domain" 28 ⟨"CapabilityDomains$DomainObject", "begin", "()V"⟩ : Cond) ∈ lw_tbl ∧ cd_gw (.methodLink "CapabilityDomains$Domain" 28 ⟨"CapabilityDomains$DomainObject", "begin", "()V"⟩) = true := cd_tw 343 (by decide +kernel) (by decide +kernel)
theorem im_Ob_begin : (.instanceMethod ⟨"CapabilityDomains$DomainObject", "begin", "()V"⟩ : Cond) ∈ lw_tbl ∧ cd_gw (.instanceMethod ⟨"CapabilityDomains$DomainObject", "begin", "()V"⟩) = true := cd_tw 344 (by decide +kernel) (by decide +kernel)
theorem se_Ob_begin : (.selects "CapabilityDomains$DomainObject" ⟨"CapabilityDomains$DomainObject", "begin", "()V"⟩ ⟨"CapabilityDomains$DomainObject", "begin", "()V"⟩ : Cond) ∈ lw_tbl ∧ cd_gw (.selects "CapabilityDomains$DomainObject" ⟨"CapabilityDomains$DomainObject", "begin", "()V"⟩ ⟨"CapabilityDomains$DomainObject", "begin", "()V"⟩) = true := cd_tw 345 (by decide +kernel) (by decide +kernel)
theorem cw_Ob_begin : (.code ⟨"CapabilityDomains$DomainObject", "begin", "()V"⟩ prog_4_method_2_code 2 none : Cond) ∈ lw_tbl ∧ cd_gw (.code ⟨"CapabilityDomains$DomainObject", "begin", "()V"⟩ prog_4_method_2_code 2 none) = true := cd_tw 346 (by decide +kernel) (by decide +kernel)
theorem ml_Ob_22 : (.methodLink "CapabilityDomains$DomainObject" 22 ⟨"CapabilityDomains$Field", "becomeNumber", "(I)V"⟩ : Cond) ∈ lw_tbl ∧ cd_gw (.methodLink "CapabilityDomains$DomainObject" 22 ⟨"CapabilityDomains$Field", "becomeNumber", "(I)V"⟩) = true := cd_tw 347 (by decide +kernel) (by decide +kernel)
theorem im_Fi_becomeNumber : (.instanceMethod ⟨"CapabilityDomains$Field", "becomeNumber", "(I)V"⟩ : Cond) ∈ lw_tbl ∧ cd_gw (.instanceMethod ⟨"CapabilityDomains$Field", "becomeNumber", "(I)V"⟩) = true := cd_tw 348 (by decide +kernel) (by decide +kernel)
theorem se_Fi_becomeNumber : (.selects "CapabilityDomains$Field" ⟨"CapabilityDomains$Field", "becomeNumber", "(I)V"⟩ ⟨"CapabilityDomains$Field", "becomeNumber", "(I)V"⟩ : Cond) ∈ lw_tbl ∧ cd_gw (.selects "CapabilityDomains$Field" ⟨"CapabilityDomains$Field", "becomeNumber", "(I)V"⟩ ⟨"CapabilityDomains$Field", "becomeNumber", "(I)V"⟩) = true := cd_tw 349 (by decide +kernel) (by decide +kernel)
theorem cw_Fi_becomeNumber : (.code ⟨"CapabilityDomains$Field", "becomeNumber", "(I)V"⟩ prog_5_method_4_code 2 none : Cond) ∈ lw_tbl ∧ cd_gw (.code ⟨"CapabilityDomains$Field", "becomeNumber", "(I)V"⟩ prog_5_method_4_code 2 none) = true := cd_tw 350 (by decide +kernel) (by decide +kernel)
theorem ml_La_89 : (.methodLink "CapabilityDomainsLaw" 89 ⟨"CapabilityDomainsLaw", "set", "(LCapabilityDomains;IIII[J)I"⟩ : Cond) ∈ lw_tbl ∧ cd_gw (.methodLink "CapabilityDomainsLaw" 89 ⟨"CapabilityDomainsLaw", "set", "(LCapabilityDomains;IIII[J)I"⟩) = true := cd_tw 351 (by decide +kernel) (by decide +kernel)
theorem st_La_set : (.static ⟨"CapabilityDomainsLaw", "set", "(LCapabilityDomains;IIII[J)I"⟩ : Cond) ∈ lw_tbl ∧ cd_gw (.static ⟨"CapabilityDomainsLaw", "set", "(LCapabilityDomains;IIII[J)I"⟩) = true := cd_tw 352 (by decide +kernel) (by decide +kernel)
theorem cw_La_set : (.codeWith ⟨"CapabilityDomainsLaw", "set", "(LCapabilityDomains;IIII[J)I"⟩ method_5_code 7 (some .int) [(0, 14, 17, 19), (0, 14, 21, 13), (0, 14, 25, 27), (0, 14, 29, 29)] : Cond) ∈ lw_tbl ∧ cd_gw (.codeWith ⟨"CapabilityDomainsLaw", "set", "(LCapabilityDomains;IIII[J)I"⟩ method_5_code 7 (some .int) [(0, 14, 17, 19), (0, 14, 21, 13), (0, 14, 25, 27), (0, 14, 29, 29)]) = true := cd_tw 353 (by decide +kernel) (by decide +kernel)
theorem kl_La_27 : (.classLink "CapabilityDomainsLaw" 27 "java/util/NoSuchElementException" : Cond) ∈ lw_tbl ∧ cd_gw (.classLink "CapabilityDomainsLaw" 27 "java/util/NoSuchElementException") = true := cd_tw 354 (by decide +kernel) (by decide +kernel)
theorem kl_La_29 : (.classLink "CapabilityDomainsLaw" 29 "java/lang/IndexOutOfBoundsException" : Cond) ∈ lw_tbl ∧ cd_gw (.classLink "CapabilityDomainsLaw" 29 "java/lang/IndexOutOfBoundsException") = true := cd_tw 355 (by decide +kernel) (by decide +kernel)
theorem ml_La_23 : (.methodLink "CapabilityDomainsLaw" 23 ⟨"CapabilityDomains", "set", "(IIII)I"⟩ : Cond) ∈ lw_tbl ∧ cd_gw (.methodLink "CapabilityDomainsLaw" 23 ⟨"CapabilityDomains", "set", "(IIII)I"⟩) = true := cd_tw 356 (by decide +kernel) (by decide +kernel)
theorem im_Cd_set : (.instanceMethod ⟨"CapabilityDomains", "set", "(IIII)I"⟩ : Cond) ∈ lw_tbl ∧ cd_gw (.instanceMethod ⟨"CapabilityDomains", "set", "(IIII)I"⟩) = true := cd_tw 357 (by decide +kernel) (by decide +kernel)
theorem se_Cd_set : (.selects "CapabilityDomains" ⟨"CapabilityDomains", "set", "(IIII)I"⟩ ⟨"CapabilityDomains", "set", "(IIII)I"⟩ : Cond) ∈ lw_tbl ∧ cd_gw (.selects "CapabilityDomains" ⟨"CapabilityDomains", "set", "(IIII)I"⟩ ⟨"CapabilityDomains", "set", "(IIII)I"⟩) = true := cd_tw 358 (by decide +kernel) (by decide +kernel)
theorem cw_Cd_set : (.code ⟨"CapabilityDomains", "set", "(IIII)I"⟩ prog_1_method_4_code 7 (some .int) : Cond) ∈ lw_tbl ∧ cd_gw (.code ⟨"CapabilityDomains", "set", "(IIII)I"⟩ prog_1_method_4_code 7 (some .int)) = true := cd_tw 359 (by decide +kernel) (by decide +kernel)
theorem ml_Cd_56 : (.methodLink "CapabilityDomains" 56 ⟨"CapabilityDomains", "fieldOf", "(LCapabilityDomains$Domain;II)LCapabilityDomains$Field;"⟩ : Cond) ∈ lw_tbl ∧ cd_gw (.methodLink "CapabilityDomains" 56 ⟨"CapabilityDomains", "fieldOf", "(LCapabilityDomains$Domain;II)LCapabilityDomains$Field;"⟩) = true := cd_tw 360 (by decide +kernel) (by decide +kernel)
theorem st_Cd_fieldOf : (.static ⟨"CapabilityDomains", "fieldOf", "(LCapabilityDomains$Domain;II)LCapabilityDomains$Field;"⟩ : Cond) ∈ lw_tbl ∧ cd_gw (.static ⟨"CapabilityDomains", "fieldOf", "(LCapabilityDomains$Domain;II)LCapabilityDomains$Field;"⟩) = true := cd_tw 361 (by decide +kernel) (by decide +kernel)
theorem cw_Cd_fieldOf : (.code ⟨"CapabilityDomains", "fieldOf", "(LCapabilityDomains$Domain;II)LCapabilityDomains$Field;"⟩ prog_1_method_31_code 3 (some (.object "CapabilityDomains$Field")) : Cond) ∈ lw_tbl ∧ cd_gw (.code ⟨"CapabilityDomains", "fieldOf", "(LCapabilityDomains$Domain;II)LCapabilityDomains$Field;"⟩ prog_1_method_31_code 3 (some (.object "CapabilityDomains$Field"))) = true := cd_tw 362 (by decide +kernel) (by decide +kernel)
theorem kl_Cd_73 : (.classLink "CapabilityDomains" 73 "java/util/NoSuchElementException" : Cond) ∈ lw_tbl ∧ cd_gw (.classLink "CapabilityDomains" 73 "java/util/NoSuchElementException") = true := cd_tw 363 (by decide +kernel) (by decide +kernel)
theorem ia_NoSuchElementException : (.instantiable "java/util/NoSuchElementException" 6 : Cond) ∈ lw_tbl ∧ cd_gw (.instantiable "java/util/NoSuchElementException" 6) = true := cd_tw 364 (by decide +kernel) (by decide +kernel)
theorem ca_NoSuchElementException : (.castable "java/util/NoSuchElementException" "java/util/NoSuchElementException" : Cond) ∈ lw_tbl ∧ cd_gw (.castable "java/util/NoSuchElementException" "java/util/NoSuchElementException") = true := cd_tw 365 (by decide +kernel) (by decide +kernel)
theorem ml_Cd_77 : (.methodLink "CapabilityDomains" 77 ⟨"java/util/NoSuchElementException", "<init>", "(Ljava/lang/String;)V"⟩ : Cond) ∈ lw_tbl ∧ cd_gw (.methodLink "CapabilityDomains" 77 ⟨"java/util/NoSuchElementException", "<init>", "(Ljava/lang/String;)V"⟩) = true := cd_tw 373 (by decide +kernel) (by decide +kernel)
theorem ml_NoSuchElementException_13 : (.methodLink "java/util/NoSuchElementException" 13 ⟨"java/lang/RuntimeException", "<init>", "(Ljava/lang/String;)V"⟩ : Cond) ∈ lw_tbl ∧ cd_gw (.methodLink "java/util/NoSuchElementException" 13 ⟨"java/lang/RuntimeException", "<init>", "(Ljava/lang/String;)V"⟩) = true := cd_tw 376 (by decide +kernel) (by decide +kernel)
theorem kl_Cd_84 : (.classLink "CapabilityDomains" 84 "java/lang/IndexOutOfBoundsException" : Cond) ∈ lw_tbl ∧ cd_gw (.classLink "CapabilityDomains" 84 "java/lang/IndexOutOfBoundsException") = true := cd_tw 379 (by decide +kernel) (by decide +kernel)
theorem ia_IndexOutOfBoundsException : (.instantiable "java/lang/IndexOutOfBoundsException" 6 : Cond) ∈ lw_tbl ∧ cd_gw (.instantiable "java/lang/IndexOutOfBoundsException" 6) = true := cd_tw 380 (by decide +kernel) (by decide +kernel)
theorem ca_IndexOutOfBoundsException : (.castable "java/lang/IndexOutOfBoundsException" "java/lang/IndexOutOfBoundsException" : Cond) ∈ lw_tbl ∧ cd_gw (.castable "java/lang/IndexOutOfBoundsException" "java/lang/IndexOutOfBoundsException") = true := cd_tw 381 (by decide +kernel) (by decide +kernel)
theorem ml_Cd_88 : (.methodLink "CapabilityDomains" 88 ⟨"java/lang/IndexOutOfBoundsException", "<init>", "(Ljava/lang/String;)V"⟩ : Cond) ∈ lw_tbl ∧ cd_gw (.methodLink "CapabilityDomains" 88 ⟨"java/lang/IndexOutOfBoundsException", "<init>", "(Ljava/lang/String;)V"⟩) = true := cd_tw 389 (by decide +kernel) (by decide +kernel)
theorem ml_IndexOutOfBoundsException_7 : (.methodLink "java/lang/IndexOutOfBoundsException" 7 ⟨"java/lang/RuntimeException", "<init>", "(Ljava/lang/String;)V"⟩ : Cond) ∈ lw_tbl ∧ cd_gw (.methodLink "java/lang/IndexOutOfBoundsException" 7 ⟨"java/lang/RuntimeException", "<init>", "(Ljava/lang/String;)V"⟩) = true := cd_tw 392 (by decide +kernel) (by decide +kernel)
theorem ml_Cd_65 : (.methodLink "CapabilityDomains" 65 ⟨"CapabilityDomains$Field", "becomeNumber", "(I)V"⟩ : Cond) ∈ lw_tbl ∧ cd_gw (.methodLink "CapabilityDomains" 65 ⟨"CapabilityDomains$Field", "becomeNumber", "(I)V"⟩) = true := cd_tw 395 (by decide +kernel) (by decide +kernel)
theorem ml_La_93 : (.methodLink "CapabilityDomainsLaw" 93 ⟨"CapabilityDomainsLaw", "link", "(LCapabilityDomains;IIII[J)I"⟩ : Cond) ∈ lw_tbl ∧ cd_gw (.methodLink "CapabilityDomainsLaw" 93 ⟨"CapabilityDomainsLaw", "link", "(LCapabilityDomains;IIII[J)I"⟩) = true := cd_tw 396 (by decide +kernel) (by decide +kernel)
theorem st_La_link : (.static ⟨"CapabilityDomainsLaw", "link", "(LCapabilityDomains;IIII[J)I"⟩ : Cond) ∈ lw_tbl ∧ cd_gw (.static ⟨"CapabilityDomainsLaw", "link", "(LCapabilityDomains;IIII[J)I"⟩) = true := cd_tw 397 (by decide +kernel) (by decide +kernel)
theorem cw_La_link : (.codeWith ⟨"CapabilityDomainsLaw", "link", "(LCapabilityDomains;IIII[J)I"⟩ method_6_code 7 (some .int) [(0, 14, 17, 19), (0, 14, 21, 13), (0, 14, 25, 27), (0, 14, 29, 29)] : Cond) ∈ lw_tbl ∧ cd_gw (.codeWith ⟨"CapabilityDomainsLaw", "link", "(LCapabilityDomains;IIII[J)I"⟩ method_6_code 7 (some .int) [(0, 14, 17, 19), (0, 14, 21, 13), (0, 14, 25, 27), (0, 14, 29, 29)]) = true := cd_tw 398 (by decide +kernel) (by decide +kernel)
theorem ml_La_31 : (.methodLink "CapabilityDomainsLaw" 31 ⟨"CapabilityDomains", "link", "(IIII)I"⟩ : Cond) ∈ lw_tbl ∧ cd_gw (.methodLink "CapabilityDomainsLaw" 31 ⟨"CapabilityDomains", "link", "(IIII)I"⟩) = true := cd_tw 399 (by decide +kernel) (by decide +kernel)
theorem im_Cd_link : (.instanceMethod ⟨"CapabilityDomains", "link", "(IIII)I"⟩ : Cond) ∈ lw_tbl ∧ cd_gw (.instanceMethod ⟨"CapabilityDomains", "link", "(IIII)I"⟩) = true := cd_tw 400 (by decide +kernel) (by decide +kernel)
theorem se_Cd_link : (.selects "CapabilityDomains" ⟨"CapabilityDomains", "link", "(IIII)I"⟩ ⟨"CapabilityDomains", "link", "(IIII)I"⟩ : Cond) ∈ lw_tbl ∧ cd_gw (.selects "CapabilityDomains" ⟨"CapabilityDomains", "link", "(IIII)I"⟩ ⟨"CapabilityDomains", "link", "(IIII)I"⟩) = true := cd_tw 401 (by decide +kernel) (by decide +kernel)
theorem cw_Cd_link : (.code ⟨"CapabilityDomains", "link", "(IIII)I"⟩ prog_1_method_5_code 7 (some .int) : Cond) ∈ lw_tbl ∧ cd_gw (.code ⟨"CapabilityDomains", "link", "(IIII)I"⟩ prog_1_method_5_code 7 (some .int)) = true := cd_tw 402 (by decide +kernel) (by decide +kernel)
theorem ml_Cd_78 : (.methodLink "CapabilityDomains" 78 ⟨"CapabilityDomains$Field", "becomeLink", "(I)V"⟩ : Cond) ∈ lw_tbl ∧ cd_gw (.methodLink "CapabilityDomains" 78 ⟨"CapabilityDomains$Field", "becomeLink", "(I)V"⟩) = true := cd_tw 404 (by decide +kernel) (by decide +kernel)
theorem im_Fi_becomeLink : (.instanceMethod ⟨"CapabilityDomains$Field", "becomeLink", "(I)V"⟩ : Cond) ∈ lw_tbl ∧ cd_gw (.instanceMethod ⟨"CapabilityDomains$Field", "becomeLink", "(I)V"⟩) = true := cd_tw 405 (by decide +kernel) (by decide +kernel)
theorem se_Fi_becomeLink : (.selects "CapabilityDomains$Field" ⟨"CapabilityDomains$Field", "becomeLink", "(I)V"⟩ ⟨"CapabilityDomains$Field", "becomeLink", "(I)V"⟩ : Cond) ∈ lw_tbl ∧ cd_gw (.selects "CapabilityDomains$Field" ⟨"CapabilityDomains$Field", "becomeLink", "(I)V"⟩ ⟨"CapabilityDomains$Field", "becomeLink", "(I)V"⟩) = true := cd_tw 406 (by decide +kernel) (by decide +kernel)
theorem cw_Fi_becomeLink : (.code ⟨"CapabilityDomains$Field", "becomeLink", "(I)V"⟩ prog_5_method_5_code 2 none : Cond) ∈ lw_tbl ∧ cd_gw (.code ⟨"CapabilityDomains$Field", "becomeLink", "(I)V"⟩ prog_5_method_5_code 2 none) = true := cd_tw 407 (by decide +kernel) (by decide +kernel)
theorem ml_La_96 : (.methodLink "CapabilityDomainsLaw" 96 ⟨"CapabilityDomainsLaw", "hold", "(LCapabilityDomains;IIII[J)I"⟩ : Cond) ∈ lw_tbl ∧ cd_gw (.methodLink "CapabilityDomainsLaw" 96 ⟨"CapabilityDomainsLaw", "hold", "(LCapabilityDomains;IIII[J)I"⟩) = true := cd_tw 408 (by decide +kernel) (by decide +kernel)
theorem st_La_hold : (.static ⟨"CapabilityDomainsLaw", "hold", "(LCapabilityDomains;IIII[J)I"⟩ : Cond) ∈ lw_tbl ∧ cd_gw (.static ⟨"CapabilityDomainsLaw", "hold", "(LCapabilityDomains;IIII[J)I"⟩) = true := cd_tw 409 (by decide +kernel) (by decide +kernel)
theorem cw_La_hold : (.codeWith ⟨"CapabilityDomainsLaw", "hold", "(LCapabilityDomains;IIII[J)I"⟩ method_7_code 7 (some .int) [(0, 14, 17, 19), (0, 14, 21, 13), (0, 14, 25, 27), (0, 14, 29, 29)] : Cond) ∈ lw_tbl ∧ cd_gw (.codeWith ⟨"CapabilityDomainsLaw", "hold", "(LCapabilityDomains;IIII[J)I"⟩ method_7_code 7 (some .int) [(0, 14, 17, 19), (0, 14, 21, 13), (0, 14, 25, 27), (0, 14, 29, 29)]) = true := cd_tw 410 (by decide +kernel) (by decide +kernel)
theorem ml_La_34 : (.methodLink "CapabilityDomainsLaw" 34 ⟨"CapabilityDomains", "hold", "(IIII)I"⟩ : Cond) ∈ lw_tbl ∧ cd_gw (.methodLink "CapabilityDomainsLaw" 34 ⟨"CapabilityDomains", "hold", "(IIII)I"⟩) = true := cd_tw 411 (by decide +kernel) (by decide +kernel)
theorem im_Cd_hold : (.instanceMethod ⟨"CapabilityDomains", "hold", "(IIII)I"⟩ : Cond) ∈ lw_tbl ∧ cd_gw (.instanceMethod ⟨"CapabilityDomains", "hold", "(IIII)I"⟩) = true := cd_tw 412 (by decide +kernel) (by decide +kernel)
theorem se_Cd_hold : (.selects "CapabilityDomains" ⟨"CapabilityDomains", "hold", "(IIII)I"⟩ ⟨"CapabilityDomains", "hold", "(IIII)I"⟩ : Cond) ∈ lw_tbl ∧ cd_gw (.selects "CapabilityDomains" ⟨"CapabilityDomains", "hold", "(IIII)I"⟩ ⟨"CapabilityDomains", "hold", "(IIII)I"⟩) = true := cd_tw 413 (by decide +kernel) (by decide +kernel)
theorem cw_Cd_hold : (.code ⟨"CapabilityDomains", "hold", "(IIII)I"⟩ prog_1_method_6_code 7 (some .int) : Cond) ∈ lw_tbl ∧ cd_gw (.code ⟨"CapabilityDomains", "hold", "(IIII)I"⟩ prog_1_method_6_code 7 (some .int)) = true := cd_tw 414 (by decide +kernel) (by decide +kernel)
theorem ml_Cd_89 : (.methodLink "CapabilityDomains" 89 ⟨"CapabilityDomains", "capabilityIn", "(LCapabilityDomains$Domain;I)LCapabilityDomains$Capability;"⟩ : Cond) ∈ lw_tbl ∧ cd_gw (.methodLink "CapabilityDomains" 89 ⟨"CapabilityDomains", "capabilityIn", "(LCapabilityDomains$Domain;I)LCapabilityDomains$Capability;"⟩) = true := cd_tw 416 (by decide +kernel) (by decide +kernel)
theorem st_Cd_capabilityIn : (.static ⟨"CapabilityDomains", "capabilityIn", "(LCapabilityDomains$Domain;I)LCapabilityDomains$Capability;"⟩ : Cond) ∈ lw_tbl ∧ cd_gw (.static ⟨"CapabilityDomains", "capabilityIn", "(LCapabilityDomains$Domain;I)LCapabilityDomains$Capability;"⟩) = true := cd_tw 417 (by decide +kernel) (by decide +kernel)
theorem cw_Cd_capabilityIn : (.code ⟨"CapabilityDomains", "capabilityIn", "(LCapabilityDomains$Domain;I)LCapabilityDomains$Capability;"⟩ prog_1_method_32_code 3 (some (.object "CapabilityDomains$Capability")) : Cond) ∈ lw_tbl ∧ cd_gw (.code ⟨"CapabilityDomains", "capabilityIn", "(LCapabilityDomains$Domain;I)LCapabilityDomains$Capability;"⟩ prog_1_method_32_code 3 (some (.object "CapabilityDomains$Capability"))) = true := cd_tw 418 (by decide +kernel) (by decide +kernel)
theorem ml_Cd_93 : (.methodLink "CapabilityDomains" 93 ⟨"CapabilityDomains$Field", "becomeCapability", "(LCapabilityDomains$Capability;)V"⟩ : Cond) ∈ lw_tbl ∧ cd_gw (.methodLink "CapabilityDomains" 93 ⟨"CapabilityDomains$Field", "becomeCapability", "(LCapabilityDomains$Capability;)V"⟩) = true := cd_tw 420 (by decide +kernel) (by decide +kernel)
theorem im_Fi_becomeCapability : (.instanceMethod ⟨"CapabilityDomains$Field", "becomeCapability", "(LCapabilityDomains$Capability;)V"⟩ : Cond) ∈ lw_tbl ∧ cd_gw (.instanceMethod ⟨"CapabilityDomains$Field", "becomeCapability", "(LCapabilityDomains$Capability;)V"⟩) = true := cd_tw 421 (by decide +kernel) (by decide +kernel)
theorem se_Fi_becomeCapability : (.selects "CapabilityDomains$Field" ⟨"CapabilityDomains$Field", "becomeCapability", "(LCapabilityDomains$Capability;)V"⟩ ⟨"CapabilityDomains$Field", "becomeCapability", "(LCapabilityDomains$Capability;)V"⟩ : Cond) ∈ lw_tbl ∧ cd_gw (.selects "CapabilityDomains$Field" ⟨"CapabilityDomains$Field", "becomeCapability", "(LCapabilityDomains$Capability;)V"⟩ ⟨"CapabilityDomains$Field", "becomeCapability", "(LCapabilityDomains$Capability;)V"⟩) = true := cd_tw 422 (by decide +kernel) (by decide +kernel)
theorem cw_Fi_becomeCapability : (.code ⟨"CapabilityDomains$Field", "becomeCapability", "(LCapabilityDomains$Capability;)V"⟩ prog_5_method_6_code 2 none : Cond) ∈ lw_tbl ∧ cd_gw (.code ⟨"CapabilityDomains$Field", "becomeCapability", "(LCapabilityDomains$Capability;)V"⟩ prog_5_method_6_code 2 none) = true := cd_tw 423 (by decide +kernel) (by decide +kernel)
theorem ml_La_99 : (.methodLink "CapabilityDomainsLaw" 99 ⟨"CapabilityDomainsLaw", "export", "(LCapabilityDomains;IIIII[J)I"⟩ : Cond) ∈ lw_tbl ∧ cd_gw (.methodLink "CapabilityDomainsLaw" 99 ⟨"CapabilityDomainsLaw", "export", "(LCapabilityDomains;IIIII[J)I"⟩) = true := cd_tw 424 (by decide +kernel) (by decide +kernel)
theorem st_La_export : (.static ⟨"CapabilityDomainsLaw", "export", "(LCapabilityDomains;IIIII[J)I"⟩ : Cond) ∈ lw_tbl ∧ cd_gw (.static ⟨"CapabilityDomainsLaw", "export", "(LCapabilityDomains;IIIII[J)I"⟩) = true := cd_tw 425 (by decide +kernel) (by decide +kernel)
theorem cw_La_export : (.codeWith ⟨"CapabilityDomainsLaw", "export", "(LCapabilityDomains;IIIII[J)I"⟩ method_8_code 8 (some .int) [(0, 16, 19, 19), (0, 16, 23, 13), (0, 16, 27, 27), (0, 16, 31, 21)] : Cond) ∈ lw_tbl ∧ cd_gw (.codeWith ⟨"CapabilityDomainsLaw", "export", "(LCapabilityDomains;IIIII[J)I"⟩ method_8_code 8 (some .int) [(0, 16, 19, 19), (0, 16, 23, 13), (0, 16, 27, 27), (0, 16, 31, 21)]) = true := cd_tw 426 (by decide +kernel) (by decide +kernel)
theorem ml_La_37 : (.methodLink "CapabilityDomainsLaw" 37 ⟨"CapabilityDomains", "export", "(IIIII)I"⟩ : Cond) ∈ lw_tbl ∧ cd_gw (.methodLink "CapabilityDomainsLaw" 37 ⟨"CapabilityDomains", "export", "(IIIII)I"⟩) = true := cd_tw 427 (by decide +kernel) (by decide +kernel)
theorem im_Cd_export : (.instanceMethod ⟨"CapabilityDomains", "export", "(IIIII)I"⟩ : Cond) ∈ lw_tbl ∧ cd_gw (.instanceMethod ⟨"CapabilityDomains", "export", "(IIIII)I"⟩) = true := cd_tw 428 (by decide +kernel) (by decide +kernel)
theorem se_Cd_export : (.selects "CapabilityDomains" ⟨"CapabilityDomains", "export", "(IIIII)I"⟩ ⟨"CapabilityDomains", "export", "(IIIII)I"⟩ : Cond) ∈ lw_tbl ∧ cd_gw (.selects "CapabilityDomains" ⟨"CapabilityDomains", "export", "(IIIII)I"⟩ ⟨"CapabilityDomains", "export", "(IIIII)I"⟩) = true := cd_tw 429 (by decide +kernel) (by decide +kernel)
theorem cw_Cd_export : (.code ⟨"CapabilityDomains", "export", "(IIIII)I"⟩ prog_1_method_7_code 7 (some .int) : Cond) ∈ lw_tbl ∧ cd_gw (.code ⟨"CapabilityDomains", "export", "(IIIII)I"⟩ prog_1_method_7_code 7 (some .int)) = true := cd_tw 430 (by decide +kernel) (by decide +kernel)
theorem ml_Cd_97 : (.methodLink "CapabilityDomains" 97 ⟨"CapabilityDomains", "requireSlot", "(II)V"⟩ : Cond) ∈ lw_tbl ∧ cd_gw (.methodLink "CapabilityDomains" 97 ⟨"CapabilityDomains", "requireSlot", "(II)V"⟩) = true := cd_tw 431 (by decide +kernel) (by decide +kernel)
theorem im_Cd_requireSlot : (.instanceMethod ⟨"CapabilityDomains", "requireSlot", "(II)V"⟩ : Cond) ∈ lw_tbl ∧ cd_gw (.instanceMethod ⟨"CapabilityDomains", "requireSlot", "(II)V"⟩) = true := cd_tw 433 (by decide +kernel) (by decide +kernel)
theorem cw_Cd_requireSlot : (.code ⟨"CapabilityDomains", "requireSlot", "(II)V"⟩ prog_1_method_27_code 3 none : Cond) ∈ lw_tbl ∧ cd_gw (.code ⟨"CapabilityDomains", "requireSlot", "(II)V"⟩ prog_1_method_27_code 3 none) = true := cd_tw 434 (by decide +kernel) (by decide +kernel)
theorem ml_Cd_101 : (.methodLink "CapabilityDomains" 101 ⟨"CapabilityDomains", "requireGrant", "(II)V"⟩ : Cond) ∈ lw_tbl ∧ cd_gw (.methodLink "CapabilityDomains" 101 ⟨"CapabilityDomains", "requireGrant", "(II)V"⟩) = true := cd_tw 436 (by decide +kernel) (by decide +kernel)
theorem st_Cd_requireGrant : (.static ⟨"CapabilityDomains", "requireGrant", "(II)V"⟩ : Cond) ∈ lw_tbl ∧ cd_gw (.static ⟨"CapabilityDomains", "requireGrant", "(II)V"⟩) = true := cd_tw 437 (by decide +kernel) (by decide +kernel)
theorem cw_Cd_requireGrant : (.code ⟨"CapabilityDomains", "requireGrant", "(II)V"⟩ prog_1_method_28_code 2 none : Cond) ∈ lw_tbl ∧ cd_gw (.code ⟨"CapabilityDomains", "requireGrant", "(II)V"⟩ prog_1_method_28_code 2 none) = true := cd_tw 438 (by decide +kernel) (by decide +kernel)
theorem ml_Cd_106 : (.methodLink "CapabilityDomains" 106 ⟨"CapabilityDomains", "requireCapabilityLeft", "()V"⟩ : Cond) ∈ lw_tbl ∧ cd_gw (.methodLink "CapabilityDomains" 106 ⟨"CapabilityDomains", "requireCapabilityLeft", "()V"⟩) = true := cd_tw 440 (by decide +kernel) (by decide +kernel)
theorem im_Cd_requireCapabilityLeft : (.instanceMethod ⟨"CapabilityDomains", "requireCapabilityLeft", "()V"⟩ : Cond) ∈ lw_tbl ∧ cd_gw (.instanceMethod ⟨"CapabilityDomains", "requireCapabilityLeft", "()V"⟩) = true := cd_tw 442 (by decide +kernel) (by decide +kernel)
theorem cw_Cd_requireCapabilityLeft : (.code ⟨"CapabilityDomains", "requireCapabilityLeft", "()V"⟩ prog_1_method_29_code 1 none : Cond) ∈ lw_tbl ∧ cd_gw (.code ⟨"CapabilityDomains", "requireCapabilityLeft", "()V"⟩ prog_1_method_29_code 1 none) = true := cd_tw 443 (by decide +kernel) (by decide +kernel)
theorem ia_Ca : (.instantiable "CapabilityDomains$Capability" 7 : Cond) ∈ lw_tbl ∧ cd_gw (.instantiable "CapabilityDomains$Capability" 7) = true := cd_tw 445 (by decide +kernel) (by decide +kernel)
theorem ml_Cd_109 : (.methodLink "CapabilityDomains" 109 ⟨"CapabilityDomains$Capability", "<init>", "(LCapabilityDomains$Domain;ILCapabilityDomains$Capability;II)V"⟩ : Cond) ∈ lw_tbl ∧ cd_gw (.methodLink "CapabilityDomains" 109 ⟨"CapabilityDomains$Capability", "<init>", "(LCapabilityDomains$Domain;ILCapabilityDomains$Capability;II)V"⟩) = true := cd_tw 446 (by decide +kernel) (by decide +kernel)
theorem im_Ca_init : (.instanceMethod ⟨"CapabilityDomains$Capability", "<init>", "(LCapabilityDomains$Domain;ILCapabilityDomains$Capability;II)V"⟩ : Cond) ∈ lw_tbl ∧ cd_gw (.instanceMethod ⟨"CapabilityDomains$Capability", "<init>", "(LCapabilityDomains$Domain;ILCapabilityDomains$Capability;II)V"⟩) = true := cd_tw 447 (by decide +kernel) (by decide +kernel)
theorem cw_Ca_init : (.code ⟨"CapabilityDomains$Capability", "<init>", "(LCapabilityDomains$Domain;ILCapabilityDomains$Capability;II)V"⟩ prog_2_method_1_code 6 none : Cond) ∈ lw_tbl ∧ cd_gw (.code ⟨"CapabilityDomains$Capability", "<init>", "(LCapabilityDomains$Domain;ILCapabilityDomains$Capability;II)V"⟩ prog_2_method_1_code 6 none) = true := cd_tw 448 (by decide +kernel) (by decide +kernel)
theorem ml_Ca_1 : (.methodLink "CapabilityDomains$Capability" 1 ⟨"java/lang/Object", "<init>", "()V"⟩ : Cond) ∈ lw_tbl ∧ cd_gw (.methodLink "CapabilityDomains$Capability" 1 ⟨"java/lang/Object", "<init>", "()V"⟩) = true := cd_tw 449 (by decide +kernel) (by decide +kernel)
theorem lk_Ca_7 : (.fieldLink "CapabilityDomains$Capability" 7 "CapabilityDomains$Capability" "home" "LCapabilityDomains$Domain;" : Cond) ∈ lw_tbl ∧ cd_gw (.fieldLink "CapabilityDomains$Capability" 7 "CapabilityDomains$Capability" "home" "LCapabilityDomains$Domain;") = true := cd_tw 450 (by decide +kernel) (by decide +kernel)
theorem lk_Cd_130 : (.fieldLink "CapabilityDomains" 130 "CapabilityDomains$Capability" "home" "LCapabilityDomains$Domain;" : Cond) ∈ lw_tbl ∧ cd_gw (.fieldLink "CapabilityDomains" 130 "CapabilityDomains$Capability" "home" "LCapabilityDomains$Domain;") = true := cd_tw 451 (by decide +kernel) (by decide +kernel)
theorem lk_Ca_13 : (.fieldLink "CapabilityDomains$Capability" 13 "CapabilityDomains$Capability" "target" "I" : Cond) ∈ lw_tbl ∧ cd_gw (.fieldLink "CapabilityDomains$Capability" 13 "CapabilityDomains$Capability" "target" "I") = true := cd_tw 452 (by decide +kernel) (by decide +kernel)
theorem lk_Cd_134 : (.fieldLink "CapabilityDomains" 134 "CapabilityDomains$Capability" "target" "I" : Cond) ∈ lw_tbl ∧ cd_gw (.fieldLink "CapabilityDomains" 134 "CapabilityDomains$Capability" "target" "I") = true := cd_tw 453 (by decide +kernel) (by decide +kernel)
theorem lk_Ca_17 : (.fieldLink "CapabilityDomains$Capability" 17 "CapabilityDomains$Capability" "parent" "LCapabilityDomains$Capability;" : Cond) ∈ lw_tbl ∧ cd_gw (.fieldLink "CapabilityDomains$Capability" 17 "CapabilityDomains$Capability" "parent" "LCapabilityDomains$Capability;") = true := cd_tw 454 (by decide +kernel) (by decide +kernel)
theorem lk_Ca_21 : (.fieldLink "CapabilityDomains$Capability" 21 "CapabilityDomains$Capability" "rights" "I" : Cond) ∈ lw_tbl ∧ cd_gw (.fieldLink "CapabilityDomains$Capability" 21 "CapabilityDomains$Capability" "rights" "I") = true := cd_tw 455 (by decide +kernel) (by decide +kernel)
theorem lk_Ca_24 : (.fieldLink "CapabilityDomains$Capability" 24 "CapabilityDomains$Capability" "uses" "I" : Cond) ∈ lw_tbl ∧ cd_gw (.fieldLink "CapabilityDomains$Capability" 24 "CapabilityDomains$Capability" "uses" "I") = true := cd_tw 456 (by decide +kernel) (by decide +kernel)
theorem lk_Cd_166 : (.fieldLink "CapabilityDomains" 166 "CapabilityDomains$Capability" "uses" "I" : Cond) ∈ lw_tbl ∧ cd_gw (.fieldLink "CapabilityDomains" 166 "CapabilityDomains$Capability" "uses" "I") = true := cd_tw 457 (by decide +kernel) (by decide +kernel)
theorem lk_Ca_27 : (.fieldLink "CapabilityDomains$Capability" 27 "CapabilityDomains$Capability" "revoked" "Z" : Cond) ∈ lw_tbl ∧ cd_gw (.fieldLink "CapabilityDomains$Capability" 27 "CapabilityDomains$Capability" "revoked" "Z") = true := cd_tw 458 (by decide +kernel) (by decide +kernel)
theorem lk_Cd_143 : (.fieldLink "CapabilityDomains" 143 "CapabilityDomains$Capability" "revoked" "Z" : Cond) ∈ lw_tbl ∧ cd_gw (.fieldLink "CapabilityDomains" 143 "CapabilityDomains$Capability" "revoked" "Z") = true := cd_tw 459 (by decide +kernel) (by decide +kernel)
theorem lk_Ca_40 : (.fieldLink "CapabilityDomains$Capability" 40 "CapabilityDomains$Capability" "dead" "Z" : Cond) ∈ lw_tbl ∧ cd_gw (.fieldLink "CapabilityDomains$Capability" 40 "CapabilityDomains$Capability" "dead" "Z") = true := cd_tw 460 (by decide +kernel) (by decide +kernel)
theorem lk_Cd_116 : (.fieldLink "CapabilityDomains" 116 "CapabilityDomains$Capability" "dead" "Z" : Cond) ∈ lw_tbl ∧ cd_gw (.fieldLink "CapabilityDomains" 116 "CapabilityDomains$Capability" "dead" "Z") = true := cd_tw 461 (by decide +kernel) (by decide +kernel)
theorem ml_Cd_112 : (.methodLink "CapabilityDomains" 112 ⟨"CapabilityDomains", "putNew", "(LCapabilityDomains$Capability;LCapabilityDomains$Domain;I)I"⟩ : Cond) ∈ lw_tbl ∧ cd_gw (.methodLink "CapabilityDomains" 112 ⟨"CapabilityDomains", "putNew", "(LCapabilityDomains$Capability;LCapabilityDomains$Domain;I)I"⟩) = true := cd_tw 477 (by decide +kernel) (by decide +kernel)
theorem im_Cd_putNew : (.instanceMethod ⟨"CapabilityDomains", "putNew", "(LCapabilityDomains$Capability;LCapabilityDomains$Domain;I)I"⟩ : Cond) ∈ lw_tbl ∧ cd_gw (.instanceMethod ⟨"CapabilityDomains", "putNew", "(LCapabilityDomains$Capability;LCapabilityDomains$Domain;I)I"⟩) = true := cd_tw 479 (by decide +kernel) (by decide +kernel)
theorem cw_Cd_putNew : (.code ⟨"CapabilityDomains", "putNew", "(LCapabilityDomains$Capability;LCapabilityDomains$Domain;I)I"⟩ prog_1_method_35_code 4 (some .int) : Cond) ∈ lw_tbl ∧ cd_gw (.code ⟨"CapabilityDomains", "putNew", "(LCapabilityDomains$Capability;LCapabilityDomains$Domain;I)I"⟩ prog_1_method_35_code 4 (some .int)) = true := cd_tw 480 (by decide +kernel) (by decide +kernel)
theorem ml_La_103 : (.methodLink "CapabilityDomainsLaw" 103 ⟨"CapabilityDomainsLaw", "narrow", "(LCapabilityDomains;IIII[J)I"⟩ : Cond) ∈ lw_tbl ∧ cd_gw (.methodLink "CapabilityDomainsLaw" 103 ⟨"CapabilityDomainsLaw", "narrow", "(LCapabilityDomains;IIII[J)I"⟩) = true := cd_tw 481 (by decide +kernel) (by decide +kernel)
theorem st_La_narrow : (.static ⟨"CapabilityDomainsLaw", "narrow", "(LCapabilityDomains;IIII[J)I"⟩ : Cond) ∈ lw_tbl ∧ cd_gw (.static ⟨"CapabilityDomainsLaw", "narrow", "(LCapabilityDomains;IIII[J)I"⟩) = true := cd_tw 482 (by decide +kernel) (by decide +kernel)
theorem cw_La_narrow : (.codeWith ⟨"CapabilityDomainsLaw", "narrow", "(LCapabilityDomains;IIII[J)I"⟩ method_9_code 7 (some .int) [(0, 14, 17, 19), (0, 14, 21, 13), (0, 14, 25, 27), (0, 14, 29, 44), (0, 14, 33, 21)] : Cond) ∈ lw_tbl ∧ cd_gw (.codeWith ⟨"CapabilityDomainsLaw", "narrow", "(LCapabilityDomains;IIII[J)I"⟩ method_9_code 7 (some .int) [(0, 14, 17, 19), (0, 14, 21, 13), (0, 14, 25, 27), (0, 14, 29, 44), (0, 14, 33, 21)]) = true := cd_tw 483 (by decide +kernel) (by decide +kernel)
theorem kl_La_44 : (.classLink "CapabilityDomainsLaw" 44 "java/lang/UnsupportedOperationException" : Cond) ∈ lw_tbl ∧ cd_gw (.classLink "CapabilityDomainsLaw" 44 "java/lang/UnsupportedOperationException") = true := cd_tw 484 (by decide +kernel) (by decide +kernel)
theorem ml_La_41 : (.methodLink "CapabilityDomainsLaw" 41 ⟨"CapabilityDomains", "narrow", "(IIII)I"⟩ : Cond) ∈ lw_tbl ∧ cd_gw (.methodLink "CapabilityDomainsLaw" 41 ⟨"CapabilityDomains", "narrow", "(IIII)I"⟩) = true := cd_tw 485 (by decide +kernel) (by decide +kernel)
theorem im_Cd_narrow : (.instanceMethod ⟨"CapabilityDomains", "narrow", "(IIII)I"⟩ : Cond) ∈ lw_tbl ∧ cd_gw (.instanceMethod ⟨"CapabilityDomains", "narrow", "(IIII)I"⟩) = true := cd_tw 486 (by decide +kernel) (by decide +kernel)
theorem se_Cd_narrow : (.selects "CapabilityDomains" ⟨"CapabilityDomains", "narrow", "(IIII)I"⟩ ⟨"CapabilityDomains", "narrow", "(IIII)I"⟩ : Cond) ∈ lw_tbl ∧ cd_gw (.selects "CapabilityDomains" ⟨"CapabilityDomains", "narrow", "(IIII)I"⟩ ⟨"CapabilityDomains", "narrow", "(IIII)I"⟩) = true := cd_tw 487 (by decide +kernel) (by decide +kernel)
theorem cw_Cd_narrow : (.code ⟨"CapabilityDomains", "narrow", "(IIII)I"⟩ prog_1_method_8_code 7 (some .int) : Cond) ∈ lw_tbl ∧ cd_gw (.code ⟨"CapabilityDomains", "narrow", "(IIII)I"⟩ prog_1_method_8_code 7 (some .int)) = true := cd_tw 488 (by decide +kernel) (by decide +kernel)
theorem ml_Cd_122 : (.methodLink "CapabilityDomains" 122 ⟨"CapabilityDomains$Capability", "allows", "(I)Z"⟩ : Cond) ∈ lw_tbl ∧ cd_gw (.methodLink "CapabilityDomains" 122 ⟨"CapabilityDomains$Capability", "allows", "(I)Z"⟩) = true := cd_tw 490 (by decide +kernel) (by decide +kernel)
theorem im_Ca_allows : (.instanceMethod ⟨"CapabilityDomains$Capability", "allows", "(I)Z"⟩ : Cond) ∈ lw_tbl ∧ cd_gw (.instanceMethod ⟨"CapabilityDomains$Capability", "allows", "(I)Z"⟩) = true := cd_tw 491 (by decide +kernel) (by decide +kernel)
theorem se_Ca_allows : (.selects "CapabilityDomains$Capability" ⟨"CapabilityDomains$Capability", "allows", "(I)Z"⟩ ⟨"CapabilityDomains$Capability", "allows", "(I)Z"⟩ : Cond) ∈ lw_tbl ∧ cd_gw (.selects "CapabilityDomains$Capability" ⟨"CapabilityDomains$Capability", "allows", "(I)Z"⟩ ⟨"CapabilityDomains$Capability", "allows", "(I)Z"⟩) = true := cd_tw 492 (by decide +kernel) (by decide +kernel)
theorem cw_Ca_allows : (.code ⟨"CapabilityDomains$Capability", "allows", "(I)Z"⟩ prog_2_method_2_code 2 (some .boolean) : Cond) ∈ lw_tbl ∧ cd_gw (.code ⟨"CapabilityDomains$Capability", "allows", "(I)Z"⟩ prog_2_method_2_code 2 (some .boolean)) = true := cd_tw 493 (by decide +kernel) (by decide +kernel)
theorem kl_Cd_125 : (.classLink "CapabilityDomains" 125 "java/lang/UnsupportedOperationException" : Cond) ∈ lw_tbl ∧ cd_gw (.classLink "CapabilityDomains" 125 "java/lang/UnsupportedOperationException") = true := cd_tw 494 (by decide +kernel) (by decide +kernel)
theorem ia_UnsupportedOperationException : (.instantiable "java/lang/UnsupportedOperationException" 6 : Cond) ∈ lw_tbl ∧ cd_gw (.instantiable "java/lang/UnsupportedOperationException" 6) = true := cd_tw 495 (by decide +kernel) (by decide +kernel)
theorem ca_UnsupportedOperationException : (.castable "java/lang/UnsupportedOperationException" "java/lang/UnsupportedOperationException" : Cond) ∈ lw_tbl ∧ cd_gw (.castable "java/lang/UnsupportedOperationException" "java/lang/UnsupportedOperationException") = true := cd_tw 496 (by decide +kernel) (by decide +kernel)
theorem ml_Cd_129 : (.methodLink "CapabilityDomains" 129 ⟨"java/lang/UnsupportedOperationException", "<init>", "(Ljava/lang/String;)V"⟩ : Cond) ∈ lw_tbl ∧ cd_gw (.methodLink "CapabilityDomains" 129 ⟨"java/lang/UnsupportedOperationException", "<init>", "(Ljava/lang/String;)V"⟩) = true := cd_tw 504 (by decide +kernel) (by decide +kernel)
theorem ml_UnsupportedOperationException_7 : (.methodLink "java/lang/UnsupportedOperationException" 7 ⟨"java/lang/RuntimeException", "<init>", "(Ljava/lang/String;)V"⟩ : Cond) ∈ lw_tbl ∧ cd_gw (.methodLink "java/lang/UnsupportedOperationException" 7 ⟨"java/lang/RuntimeException", "<init>", "(Ljava/lang/String;)V"⟩) = true := cd_tw 507 (by decide +kernel) (by decide +kernel)
theorem ml_La_106 : (.methodLink "CapabilityDomainsLaw" 106 ⟨"CapabilityDomainsLaw", "give", "(LCapabilityDomains;IIII[J)I"⟩ : Cond) ∈ lw_tbl ∧ cd_gw (.methodLink "CapabilityDomainsLaw" 106 ⟨"CapabilityDomainsLaw", "give", "(LCapabilityDomains;IIII[J)I"⟩) = true := cd_tw 510 (by decide +kernel) (by decide +kernel)
theorem st_La_give : (.static ⟨"CapabilityDomainsLaw", "give", "(LCapabilityDomains;IIII[J)I"⟩ : Cond) ∈ lw_tbl ∧ cd_gw (.static ⟨"CapabilityDomainsLaw", "give", "(LCapabilityDomains;IIII[J)I"⟩) = true := cd_tw 511 (by decide +kernel) (by decide +kernel)
theorem cw_La_give : (.codeWith ⟨"CapabilityDomainsLaw", "give", "(LCapabilityDomains;IIII[J)I"⟩ method_10_code 7 (some .int) [(0, 14, 17, 19), (0, 14, 21, 13), (0, 14, 25, 27)] : Cond) ∈ lw_tbl ∧ cd_gw (.codeWith ⟨"CapabilityDomainsLaw", "give", "(LCapabilityDomains;IIII[J)I"⟩ method_10_code 7 (some .int) [(0, 14, 17, 19), (0, 14, 21, 13), (0, 14, 25, 27)]) = true := cd_tw 512 (by decide +kernel) (by decide +kernel)
theorem ml_La_46 : (.methodLink "CapabilityDomainsLaw" 46 ⟨"CapabilityDomains", "give", "(IIII)I"⟩ : Cond) ∈ lw_tbl ∧ cd_gw (.methodLink "CapabilityDomainsLaw" 46 ⟨"CapabilityDomains", "give", "(IIII)I"⟩) = true := cd_tw 513 (by decide +kernel) (by decide +kernel)
theorem im_Cd_give : (.instanceMethod ⟨"CapabilityDomains", "give", "(IIII)I"⟩ : Cond) ∈ lw_tbl ∧ cd_gw (.instanceMethod ⟨"CapabilityDomains", "give", "(IIII)I"⟩) = true := cd_tw 514 (by decide +kernel) (by decide +kernel)
theorem se_Cd_give : (.selects "CapabilityDomains" ⟨"CapabilityDomains", "give", "(IIII)I"⟩ ⟨"CapabilityDomains", "give", "(IIII)I"⟩ : Cond) ∈ lw_tbl ∧ cd_gw (.selects "CapabilityDomains" ⟨"CapabilityDomains", "give", "(IIII)I"⟩ ⟨"CapabilityDomains", "give", "(IIII)I"⟩) = true := cd_tw 515 (by decide +kernel) (by decide +kernel)
theorem cw_Cd_give : (.code ⟨"CapabilityDomains", "give", "(IIII)I"⟩ prog_1_method_9_code 7 (some .int) : Cond) ∈ lw_tbl ∧ cd_gw (.code ⟨"CapabilityDomains", "give", "(IIII)I"⟩ prog_1_method_9_code 7 (some .int)) = true := cd_tw 516 (by decide +kernel) (by decide +kernel)
theorem ml_Cd_137 : (.methodLink "CapabilityDomains" 137 ⟨"CapabilityDomains$Domain", "replaceSlot", "(ILCapabilityDomains$Capability;)I"⟩ : Cond) ∈ lw_tbl ∧ cd_gw (.methodLink "CapabilityDomains" 137 ⟨"CapabilityDomains$Domain", "replaceSlot", "(ILCapabilityDomains$Capability;)I"⟩) = true := cd_tw 517 (by decide +kernel) (by decide +kernel)
theorem im_Do_replaceSlot : (.instanceMethod ⟨"CapabilityDomains$Domain", "replaceSlot", "(ILCapabilityDomains$Capability;)I"⟩ : Cond) ∈ lw_tbl ∧ cd_gw (.instanceMethod ⟨"CapabilityDomains$Domain", "replaceSlot", "(ILCapabilityDomains$Capability;)I"⟩) = true := cd_tw 518 (by decide +kernel) (by decide +kernel)
theorem se_Do_replaceSlot : (.selects "CapabilityDomains$Domain" ⟨"CapabilityDomains$Domain", "replaceSlot", "(ILCapabilityDomains$Capability;)I"⟩ ⟨"CapabilityDomains$Domain", "replaceSlot", "(ILCapabilityDomains$Capability;)I"⟩ : Cond) ∈ lw_tbl ∧ cd_gw (.selects "CapabilityDomains$Domain" ⟨"CapabilityDomains$Domain", "replaceSlot", "(ILCapabilityDomains$Capability;)I"⟩ ⟨"CapabilityDomains$Domain", "replaceSlot", "(ILCapabilityDomains$Capability;)I"⟩) = true := cd_tw 519 (by decide +kernel) (by decide +kernel)
theorem cw_Do_replaceSlot : (.code ⟨"CapabilityDomains$Domain", "replaceSlot", "(ILCapabilityDomains$Capability;)I"⟩ prog_3_method_6_code 4 (some .int) : Cond) ∈ lw_tbl ∧ cd_gw (.code ⟨"CapabilityDomains$Domain", "replaceSlot", "(ILCapabilityDomains$Capability;)I"⟩ prog_3_method_6_code 4 (some .int)) = true := cd_tw 520 (by decide +kernel) (by decide +kernel)
theorem ml_La_109 : (.methodLink "CapabilityDomainsLaw" 109 ⟨"CapabilityDomainsLaw", "revoke", "(LCapabilityDomains;II[J)I"⟩ : Cond) ∈ lw_tbl ∧ cd_gw (.methodLink "CapabilityDomainsLaw" 109 ⟨"CapabilityDomainsLaw", "revoke", "(LCapabilityDomains;II[J)I"⟩) = true := cd_tw 521 (by decide +kernel) (by decide +kernel)
theorem st_La_revoke : (.static ⟨"CapabilityDomainsLaw", "revoke", "(LCapabilityDomains;II[J)I"⟩ : Cond) ∈ lw_tbl ∧ cd_gw (.static ⟨"CapabilityDomainsLaw", "revoke", "(LCapabilityDomains;II[J)I"⟩) = true := cd_tw 522 (by decide +kernel) (by decide +kernel)
theorem cw_La_revoke : (.codeWith ⟨"CapabilityDomainsLaw", "revoke", "(LCapabilityDomains;II[J)I"⟩ method_11_code 5 (some .int) [(0, 10, 13, 19), (0, 10, 17, 13), (0, 10, 21, 27), (0, 10, 25, 44)] : Cond) ∈ lw_tbl ∧ cd_gw (.codeWith ⟨"CapabilityDomainsLaw", "revoke", "(LCapabilityDomains;II[J)I"⟩ method_11_code 5 (some .int) [(0, 10, 13, 19), (0, 10, 17, 13), (0, 10, 21, 27), (0, 10, 25, 44)]) = true := cd_tw 523 (by decide +kernel) (by decide +kernel)
theorem ml_La_49 : (.methodLink "CapabilityDomainsLaw" 49 ⟨"CapabilityDomains", "revoke", "(II)I"⟩ : Cond) ∈ lw_tbl ∧ cd_gw (.methodLink "CapabilityDomainsLaw" 49 ⟨"CapabilityDomains", "revoke", "(II)I"⟩) = true := cd_tw 524 (by decide +kernel) (by decide +kernel)
theorem im_Cd_revoke : (.instanceMethod ⟨"CapabilityDomains", "revoke", "(II)I"⟩ : Cond) ∈ lw_tbl ∧ cd_gw (.instanceMethod ⟨"CapabilityDomains", "revoke", "(II)I"⟩) = true := cd_tw 525 (by decide +kernel) (by decide +kernel)
theorem se_Cd_revoke : (.selects "CapabilityDomains" ⟨"CapabilityDomains", "revoke", "(II)I"⟩ ⟨"CapabilityDomains", "revoke", "(II)I"⟩ : Cond) ∈ lw_tbl ∧ cd_gw (.selects "CapabilityDomains" ⟨"CapabilityDomains", "revoke", "(II)I"⟩ ⟨"CapabilityDomains", "revoke", "(II)I"⟩) = true := cd_tw 526 (by decide +kernel) (by decide +kernel)
theorem cw_Cd_revoke : (.code ⟨"CapabilityDomains", "revoke", "(II)I"⟩ prog_1_method_10_code 5 (some .int) : Cond) ∈ lw_tbl ∧ cd_gw (.code ⟨"CapabilityDomains", "revoke", "(II)I"⟩ prog_1_method_10_code 5 (some .int)) = true := cd_tw 527 (by decide +kernel) (by decide +kernel)
theorem ml_Cd_146 : (.methodLink "CapabilityDomains" 146 ⟨"CapabilityDomains", "spreadDeath", "()I"⟩ : Cond) ∈ lw_tbl ∧ cd_gw (.methodLink "CapabilityDomains" 146 ⟨"CapabilityDomains", "spreadDeath", "()I"⟩) = true := cd_tw 529 (by decide +kernel) (by decide +kernel)
theorem im_Cd_spreadDeath : (.instanceMethod ⟨"CapabilityDomains", "spreadDeath", "()I"⟩ : Cond) ∈ lw_tbl ∧ cd_gw (.instanceMethod ⟨"CapabilityDomains", "spreadDeath", "()I"⟩) = true := cd_tw 531 (by decide +kernel) (by decide +kernel)
theorem cw_Cd_spreadDeath : (.code ⟨"CapabilityDomains", "spreadDeath", "()I"⟩ prog_1_method_36_code 4 (some .int) : Cond) ∈ lw_tbl ∧ cd_gw (.code ⟨"CapabilityDomains", "spreadDeath", "()I"⟩ prog_1_method_36_code 4 (some .int)) = true := cd_tw 532 (by decide +kernel) (by decide +kernel)
theorem ml_Cd_266 : (.methodLink "CapabilityDomains" 266 ⟨"CapabilityDomains$Capability", "mustDie", "()Z"⟩ : Cond) ∈ lw_tbl ∧ cd_gw (.methodLink "CapabilityDomains" 266 ⟨"CapabilityDomains$Capability", "mustDie", "()Z"⟩) = true := cd_tw 533 (by decide +kernel) (by decide +kernel)
theorem im_Ca_mustDie : (.instanceMethod ⟨"CapabilityDomains$Capability", "mustDie", "()Z"⟩ : Cond) ∈ lw_tbl ∧ cd_gw (.instanceMethod ⟨"CapabilityDomains$Capability", "mustDie", "()Z"⟩) = true := cd_tw 534 (by decide +kernel) (by decide +kernel)
theorem se_Ca_mustDie : (.selects "CapabilityDomains$Capability" ⟨"CapabilityDomains$Capability", "mustDie", "()Z"⟩ ⟨"CapabilityDomains$Capability", "mustDie", "()Z"⟩ : Cond) ∈ lw_tbl ∧ cd_gw (.selects "CapabilityDomains$Capability" ⟨"CapabilityDomains$Capability", "mustDie", "()Z"⟩ ⟨"CapabilityDomains$Capability", "mustDie", "()Z"⟩) = true := cd_tw 535 (by decide +kernel) (by decide +kernel)
theorem cw_Ca_mustDie : (.code ⟨"CapabilityDomains$Capability", "mustDie", "()Z"⟩ prog_2_method_3_code 1 (some .boolean) : Cond) ∈ lw_tbl ∧ cd_gw (.code ⟨"CapabilityDomains$Capability", "mustDie", "()Z"⟩ prog_2_method_3_code 1 (some .boolean)) = true := cd_tw 536 (by decide +kernel) (by decide +kernel)
theorem ml_Ca_36 : (.methodLink "CapabilityDomains$Capability" 36 ⟨"CapabilityDomains$Domain", "hasObject", "(I)Z"⟩ : Cond) ∈ lw_tbl ∧ cd_gw (.methodLink "CapabilityDomains$Capability" 36 ⟨"CapabilityDomains$Domain", "hasObject", "(I)Z"⟩) = true := cd_tw 537 (by decide +kernel) (by decide +kernel)
theorem ml_La_113 : (.methodLink "CapabilityDomainsLaw" 113 ⟨"CapabilityDomainsLaw", "read", "(LCapabilityDomains;III[J)I"⟩ : Cond) ∈ lw_tbl ∧ cd_gw (.methodLink "CapabilityDomainsLaw" 113 ⟨"CapabilityDomainsLaw", "read", "(LCapabilityDomains;III[J)I"⟩) = true := cd_tw 538 (by decide +kernel) (by decide +kernel)
theorem st_La_read : (.static ⟨"CapabilityDomainsLaw", "read", "(LCapabilityDomains;III[J)I"⟩ : Cond) ∈ lw_tbl ∧ cd_gw (.static ⟨"CapabilityDomainsLaw", "read", "(LCapabilityDomains;III[J)I"⟩) = true := cd_tw 539 (by decide +kernel) (by decide +kernel)
theorem cw_La_read : (.codeWith ⟨"CapabilityDomainsLaw", "read", "(LCapabilityDomains;III[J)I"⟩ method_12_code 6 (some .int) [(0, 12, 15, 19), (0, 12, 19, 13), (0, 12, 23, 27), (0, 12, 27, 44), (0, 12, 31, 29), (0, 12, 35, 21)] : Cond) ∈ lw_tbl ∧ cd_gw (.codeWith ⟨"CapabilityDomainsLaw", "read", "(LCapabilityDomains;III[J)I"⟩ method_12_code 6 (some .int) [(0, 12, 15, 19), (0, 12, 19, 13), (0, 12, 23, 27), (0, 12, 27, 44), (0, 12, 31, 29), (0, 12, 35, 21)]) = true := cd_tw 540 (by decide +kernel) (by decide +kernel)
theorem ml_La_53 : (.methodLink "CapabilityDomainsLaw" 53 ⟨"CapabilityDomains", "read", "(III)I"⟩ : Cond) ∈ lw_tbl ∧ cd_gw (.methodLink "CapabilityDomainsLaw" 53 ⟨"CapabilityDomains", "read", "(III)I"⟩) = true := cd_tw 541 (by decide +kernel) (by decide +kernel)
theorem im_Cd_read : (.instanceMethod ⟨"CapabilityDomains", "read", "(III)I"⟩ : Cond) ∈ lw_tbl ∧ cd_gw (.instanceMethod ⟨"CapabilityDomains", "read", "(III)I"⟩) = true := cd_tw 542 (by decide +kernel) (by decide +kernel)
theorem se_Cd_read : (.selects "CapabilityDomains" ⟨"CapabilityDomains", "read", "(III)I"⟩ ⟨"CapabilityDomains", "read", "(III)I"⟩ : Cond) ∈ lw_tbl ∧ cd_gw (.selects "CapabilityDomains" ⟨"CapabilityDomains", "read", "(III)I"⟩ ⟨"CapabilityDomains", "read", "(III)I"⟩) = true := cd_tw 543 (by decide +kernel) (by decide +kernel)
theorem cw_Cd_read : (.code ⟨"CapabilityDomains", "read", "(III)I"⟩ prog_1_method_11_code 6 (some .int) : Cond) ∈ lw_tbl ∧ cd_gw (.code ⟨"CapabilityDomains", "read", "(III)I"⟩ prog_1_method_11_code 6 (some .int)) = true := cd_tw 544 (by decide +kernel) (by decide +kernel)
theorem ml_Cd_149 : (.methodLink "CapabilityDomains" 149 ⟨"CapabilityDomains", "usable", "(III)LCapabilityDomains$Capability;"⟩ : Cond) ∈ lw_tbl ∧ cd_gw (.methodLink "CapabilityDomains" 149 ⟨"CapabilityDomains", "usable", "(III)LCapabilityDomains$Capability;"⟩) = true := cd_tw 545 (by decide +kernel) (by decide +kernel)
theorem im_Cd_usable : (.instanceMethod ⟨"CapabilityDomains", "usable", "(III)LCapabilityDomains$Capability;"⟩ : Cond) ∈ lw_tbl ∧ cd_gw (.instanceMethod ⟨"CapabilityDomains", "usable", "(III)LCapabilityDomains$Capability;"⟩) = true := cd_tw 547 (by decide +kernel) (by decide +kernel)
theorem cw_Cd_usable : (.code ⟨"CapabilityDomains", "usable", "(III)LCapabilityDomains$Capability;"⟩ prog_1_method_33_code 5 (some (.object "CapabilityDomains$Capability")) : Cond) ∈ lw_tbl ∧ cd_gw (.code ⟨"CapabilityDomains", "usable", "(III)LCapabilityDomains$Capability;"⟩ prog_1_method_33_code 5 (some (.object "CapabilityDomains$Capability"))) = true := cd_tw 548 (by decide +kernel) (by decide +kernel)
theorem ml_Cd_259 : (.methodLink "CapabilityDomains" 259 ⟨"CapabilityDomains$Capability", "isUsedUp", "()Z"⟩ : Cond) ∈ lw_tbl ∧ cd_gw (.methodLink "CapabilityDomains" 259 ⟨"CapabilityDomains$Capability", "isUsedUp", "()Z"⟩) = true := cd_tw 549 (by decide +kernel) (by decide +kernel)
theorem im_Ca_isUsedUp : (.instanceMethod ⟨"CapabilityDomains$Capability", "isUsedUp", "()Z"⟩ : Cond) ∈ lw_tbl ∧ cd_gw (.instanceMethod ⟨"CapabilityDomains$Capability", "isUsedUp", "()Z"⟩) = true := cd_tw 550 (by decide +kernel) (by decide +kernel)
theorem se_Ca_isUsedUp : (.selects "CapabilityDomains$Capability" ⟨"CapabilityDomains$Capability", "isUsedUp", "()Z"⟩ ⟨"CapabilityDomains$Capability", "isUsedUp", "()Z"⟩ : Cond) ∈ lw_tbl ∧ cd_gw (.selects "CapabilityDomains$Capability" ⟨"CapabilityDomains$Capability", "isUsedUp", "()Z"⟩ ⟨"CapabilityDomains$Capability", "isUsedUp", "()Z"⟩) = true := cd_tw 551 (by decide +kernel) (by decide +kernel)
theorem cw_Ca_isUsedUp : (.code ⟨"CapabilityDomains$Capability", "isUsedUp", "()Z"⟩ prog_2_method_4_code 2 (some .boolean) : Cond) ∈ lw_tbl ∧ cd_gw (.code ⟨"CapabilityDomains$Capability", "isUsedUp", "()Z"⟩ prog_2_method_4_code 2 (some .boolean)) = true := cd_tw 552 (by decide +kernel) (by decide +kernel)
theorem ml_Cd_153 : (.methodLink "CapabilityDomains" 153 ⟨"CapabilityDomains", "targetField", "(LCapabilityDomains$Capability;I)LCapabilityDomains$Field;"⟩ : Cond) ∈ lw_tbl ∧ cd_gw (.methodLink "CapabilityDomains" 153 ⟨"CapabilityDomains", "targetField", "(LCapabilityDomains$Capability;I)LCapabilityDomains$Field;"⟩) = true := cd_tw 555 (by decide +kernel) (by decide +kernel)
theorem st_Cd_targetField : (.static ⟨"CapabilityDomains", "targetField", "(LCapabilityDomains$Capability;I)LCapabilityDomains$Field;"⟩ : Cond) ∈ lw_tbl ∧ cd_gw (.static ⟨"CapabilityDomains", "targetField", "(LCapabilityDomains$Capability;I)LCapabilityDomains$Field;"⟩) = true := cd_tw 556 (by decide +kernel) (by decide +kernel)
theorem cw_Cd_targetField : (.code ⟨"CapabilityDomains", "targetField", "(LCapabilityDomains$Capability;I)LCapabilityDomains$Field;"⟩ prog_1_method_34_code 2 (some (.object "CapabilityDomains$Field")) : Cond) ∈ lw_tbl ∧ cd_gw (.code ⟨"CapabilityDomains", "targetField", "(LCapabilityDomains$Capability;I)LCapabilityDomains$Field;"⟩ prog_1_method_34_code 2 (some (.object "CapabilityDomains$Field"))) = true := cd_tw 557 (by decide +kernel) (by decide +kernel)
theorem ml_Cd_157 : (.methodLink "CapabilityDomains" 157 ⟨"CapabilityDomains$Field", "isNumber", "()Z"⟩ : Cond) ∈ lw_tbl ∧ cd_gw (.methodLink "CapabilityDomains" 157 ⟨"CapabilityDomains$Field", "isNumber", "()Z"⟩) = true := cd_tw 558 (by decide +kernel) (by decide +kernel)
theorem im_Fi_isNumber : (.instanceMethod ⟨"CapabilityDomains$Field", "isNumber", "()Z"⟩ : Cond) ∈ lw_tbl ∧ cd_gw (.instanceMethod ⟨"CapabilityDomains$Field", "isNumber", "()Z"⟩) = true := cd_tw 559 (by decide +kernel) (by decide +kernel)
theorem se_Fi_isNumber : (.selects "CapabilityDomains$Field" ⟨"CapabilityDomains$Field", "isNumber", "()Z"⟩ ⟨"CapabilityDomains$Field", "isNumber", "()Z"⟩ : Cond) ∈ lw_tbl ∧ cd_gw (.selects "CapabilityDomains$Field" ⟨"CapabilityDomains$Field", "isNumber", "()Z"⟩ ⟨"CapabilityDomains$Field", "isNumber", "()Z"⟩) = true := cd_tw 560 (by decide +kernel) (by decide +kernel)
theorem cw_Fi_isNumber : (.code ⟨"CapabilityDomains$Field", "isNumber", "()Z"⟩ prog_5_method_3_code 1 (some .boolean) : Cond) ∈ lw_tbl ∧ cd_gw (.code ⟨"CapabilityDomains$Field", "isNumber", "()Z"⟩ prog_5_method_3_code 1 (some .boolean)) = true := cd_tw 561 (by decide +kernel) (by decide +kernel)
theorem ml_Cd_163 : (.methodLink "CapabilityDomains" 163 ⟨"CapabilityDomains$Capability", "spendOneUse", "()V"⟩ : Cond) ∈ lw_tbl ∧ cd_gw (.methodLink "CapabilityDomains" 163 ⟨"CapabilityDomains$Capability", "spendOneUse", "()V"⟩) = true := cd_tw 563 (by decide +kernel) (by decide +kernel)
theorem im_Ca_spendOneUse : (.instanceMethod ⟨"CapabilityDomains$Capability", "spendOneUse", "()V"⟩ : Cond) ∈ lw_tbl ∧ cd_gw (.instanceMethod ⟨"CapabilityDomains$Capability", "spendOneUse", "()V"⟩) = true := cd_tw 564 (by decide +kernel) (by decide +kernel)
theorem se_Ca_spendOneUse : (.selects "CapabilityDomains$Capability" ⟨"CapabilityDomains$Capability", "spendOneUse", "()V"⟩ ⟨"CapabilityDomains$Capability", "spendOneUse", "()V"⟩ : Cond) ∈ lw_tbl ∧ cd_gw (.selects "CapabilityDomains$Capability" ⟨"CapabilityDomains$Capability", "spendOneUse", "()V"⟩ ⟨"CapabilityDomains$Capability", "spendOneUse", "()V"⟩) = true := cd_tw 565 (by decide +kernel) (by decide +kernel)
theorem cw_Ca_spendOneUse : (.code ⟨"CapabilityDomains$Capability", "spendOneUse", "()V"⟩ prog_2_method_5_code 2 none : Cond) ∈ lw_tbl ∧ cd_gw (.code ⟨"CapabilityDomains$Capability", "spendOneUse", "()V"⟩ prog_2_method_5_code 2 none) = true := cd_tw 566 (by decide +kernel) (by decide +kernel)
theorem ml_La_117 : (.methodLink "CapabilityDomainsLaw" 117 ⟨"CapabilityDomainsLaw", "write", "(LCapabilityDomains;IIII[J)I"⟩ : Cond) ∈ lw_tbl ∧ cd_gw (.methodLink "CapabilityDomainsLaw" 117 ⟨"CapabilityDomainsLaw", "write", "(LCapabilityDomains;IIII[J)I"⟩) = true := cd_tw 567 (by decide +kernel) (by decide +kernel)
theorem st_La_write : (.static ⟨"CapabilityDomainsLaw", "write", "(LCapabilityDomains;IIII[J)I"⟩ : Cond) ∈ lw_tbl ∧ cd_gw (.static ⟨"CapabilityDomainsLaw", "write", "(LCapabilityDomains;IIII[J)I"⟩) = true := cd_tw 568 (by decide +kernel) (by decide +kernel)
theorem cw_La_write : (.codeWith ⟨"CapabilityDomainsLaw", "write", "(LCapabilityDomains;IIII[J)I"⟩ method_13_code 7 (some .int) [(0, 14, 17, 19), (0, 14, 21, 13), (0, 14, 25, 27), (0, 14, 29, 44), (0, 14, 33, 29)] : Cond) ∈ lw_tbl ∧ cd_gw (.codeWith ⟨"CapabilityDomainsLaw", "write", "(LCapabilityDomains;IIII[J)I"⟩ method_13_code 7 (some .int) [(0, 14, 17, 19), (0, 14, 21, 13), (0, 14, 25, 27), (0, 14, 29, 44), (0, 14, 33, 29)]) = true := cd_tw 569 (by decide +kernel) (by decide +kernel)
theorem ml_La_57 : (.methodLink "CapabilityDomainsLaw" 57 ⟨"CapabilityDomains", "write", "(IIII)I"⟩ : Cond) ∈ lw_tbl ∧ cd_gw (.methodLink "CapabilityDomainsLaw" 57 ⟨"CapabilityDomains", "write", "(IIII)I"⟩) = true := cd_tw 570 (by decide +kernel) (by decide +kernel)
theorem im_Cd_write : (.instanceMethod ⟨"CapabilityDomains", "write", "(IIII)I"⟩ : Cond) ∈ lw_tbl ∧ cd_gw (.instanceMethod ⟨"CapabilityDomains", "write", "(IIII)I"⟩) = true := cd_tw 571 (by decide +kernel) (by decide +kernel)
theorem se_Cd_write : (.selects "CapabilityDomains" ⟨"CapabilityDomains", "write", "(IIII)I"⟩ ⟨"CapabilityDomains", "write", "(IIII)I"⟩ : Cond) ∈ lw_tbl ∧ cd_gw (.selects "CapabilityDomains" ⟨"CapabilityDomains", "write", "(IIII)I"⟩ ⟨"CapabilityDomains", "write", "(IIII)I"⟩) = true := cd_tw 572 (by decide +kernel) (by decide +kernel)
theorem cw_Cd_write : (.code ⟨"CapabilityDomains", "write", "(IIII)I"⟩ prog_1_method_12_code 6 (some .int) : Cond) ∈ lw_tbl ∧ cd_gw (.code ⟨"CapabilityDomains", "write", "(IIII)I"⟩ prog_1_method_12_code 6 (some .int)) = true := cd_tw 573 (by decide +kernel) (by decide +kernel)
theorem ml_La_120 : (.methodLink "CapabilityDomainsLaw" 120 ⟨"CapabilityDomainsLaw", "pass", "(LCapabilityDomains;IIII[J)I"⟩ : Cond) ∈ lw_tbl ∧ cd_gw (.methodLink "CapabilityDomainsLaw" 120 ⟨"CapabilityDomainsLaw", "pass", "(LCapabilityDomains;IIII[J)I"⟩) = true := cd_tw 574 (by decide +kernel) (by decide +kernel)
theorem st_La_pass : (.static ⟨"CapabilityDomainsLaw", "pass", "(LCapabilityDomains;IIII[J)I"⟩ : Cond) ∈ lw_tbl ∧ cd_gw (.static ⟨"CapabilityDomainsLaw", "pass", "(LCapabilityDomains;IIII[J)I"⟩) = true := cd_tw 575 (by decide +kernel) (by decide +kernel)
theorem cw_La_pass : (.codeWith ⟨"CapabilityDomainsLaw", "pass", "(LCapabilityDomains;IIII[J)I"⟩ method_14_code 7 (some .int) [(0, 14, 17, 19), (0, 14, 21, 13), (0, 14, 25, 27), (0, 14, 29, 44), (0, 14, 33, 29), (0, 14, 37, 21)] : Cond) ∈ lw_tbl ∧ cd_gw (.codeWith ⟨"CapabilityDomainsLaw", "pass", "(LCapabilityDomains;IIII[J)I"⟩ method_14_code 7 (some .int) [(0, 14, 17, 19), (0, 14, 21, 13), (0, 14, 25, 27), (0, 14, 29, 44), (0, 14, 33, 29), (0, 14, 37, 21)]) = true := cd_tw 576 (by decide +kernel) (by decide +kernel)
theorem ml_La_60 : (.methodLink "CapabilityDomainsLaw" 60 ⟨"CapabilityDomains", "pass", "(IIII)I"⟩ : Cond) ∈ lw_tbl ∧ cd_gw (.methodLink "CapabilityDomainsLaw" 60 ⟨"CapabilityDomains", "pass", "(IIII)I"⟩) = true := cd_tw 577 (by decide +kernel) (by decide +kernel)
theorem im_Cd_pass : (.instanceMethod ⟨"CapabilityDomains", "pass", "(IIII)I"⟩ : Cond) ∈ lw_tbl ∧ cd_gw (.instanceMethod ⟨"CapabilityDomains", "pass", "(IIII)I"⟩) = true := cd_tw 578 (by decide +kernel) (by decide +kernel)
theorem se_Cd_pass : (.selects "CapabilityDomains" ⟨"CapabilityDomains", "pass", "(IIII)I"⟩ ⟨"CapabilityDomains", "pass", "(IIII)I"⟩ : Cond) ∈ lw_tbl ∧ cd_gw (.selects "CapabilityDomains" ⟨"CapabilityDomains", "pass", "(IIII)I"⟩ ⟨"CapabilityDomains", "pass", "(IIII)I"⟩) = true := cd_tw 579 (by decide +kernel) (by decide +kernel)
theorem cw_Cd_pass : (.code ⟨"CapabilityDomains", "pass", "(IIII)I"⟩ prog_1_method_13_code 8 (some .int) : Cond) ∈ lw_tbl ∧ cd_gw (.code ⟨"CapabilityDomains", "pass", "(IIII)I"⟩ prog_1_method_13_code 8 (some .int)) = true := cd_tw 580 (by decide +kernel) (by decide +kernel)
theorem ml_Cd_171 : (.methodLink "CapabilityDomains" 171 ⟨"CapabilityDomains$Reach", "start", "(LCapabilityDomains$Domain;I)V"⟩ : Cond) ∈ lw_tbl ∧ cd_gw (.methodLink "CapabilityDomains" 171 ⟨"CapabilityDomains$Reach", "start", "(LCapabilityDomains$Domain;I)V"⟩) = true := cd_tw 582 (by decide +kernel) (by decide +kernel)
theorem im_Re_start : (.instanceMethod ⟨"CapabilityDomains$Reach", "start", "(LCapabilityDomains$Domain;I)V"⟩ : Cond) ∈ lw_tbl ∧ cd_gw (.instanceMethod ⟨"CapabilityDomains$Reach", "start", "(LCapabilityDomains$Domain;I)V"⟩) = true := cd_tw 583 (by decide +kernel) (by decide +kernel)
theorem se_Re_start : (.selects "CapabilityDomains$Reach" ⟨"CapabilityDomains$Reach", "start", "(LCapabilityDomains$Domain;I)V"⟩ ⟨"CapabilityDomains$Reach", "start", "(LCapabilityDomains$Domain;I)V"⟩ : Cond) ∈ lw_tbl ∧ cd_gw (.selects "CapabilityDomains$Reach" ⟨"CapabilityDomains$Reach", "start", "(LCapabilityDomains$Domain;I)V"⟩ ⟨"CapabilityDomains$Reach", "start", "(LCapabilityDomains$Domain;I)V"⟩) = true := cd_tw 584 (by decide +kernel) (by decide +kernel)
theorem cw_Re_start : (.code ⟨"CapabilityDomains$Reach", "start", "(LCapabilityDomains$Domain;I)V"⟩ prog_6_method_2_code 4 none : Cond) ∈ lw_tbl ∧ cd_gw (.code ⟨"CapabilityDomains$Reach", "start", "(LCapabilityDomains$Domain;I)V"⟩ prog_6_method_2_code 4 none) = true := cd_tw 585 (by decide +kernel) (by decide +kernel)
theorem ml_Re_30 : (.methodLink "CapabilityDomains$Reach" 30 ⟨"CapabilityDomains$Reach", "comeTo", "(II)V"⟩ : Cond) ∈ lw_tbl ∧ cd_gw (.methodLink "CapabilityDomains$Reach" 30 ⟨"CapabilityDomains$Reach", "comeTo", "(II)V"⟩) = true := cd_tw 586 (by decide +kernel) (by decide +kernel)
theorem im_Re_comeTo : (.instanceMethod ⟨"CapabilityDomains$Reach", "comeTo", "(II)V"⟩ : Cond) ∈ lw_tbl ∧ cd_gw (.instanceMethod ⟨"CapabilityDomains$Reach", "comeTo", "(II)V"⟩) = true := cd_tw 588 (by decide +kernel) (by decide +kernel)
theorem cw_Re_comeTo : (.code ⟨"CapabilityDomains$Reach", "comeTo", "(II)V"⟩ prog_6_method_3_code 4 none : Cond) ∈ lw_tbl ∧ cd_gw (.code ⟨"CapabilityDomains$Reach", "comeTo", "(II)V"⟩ prog_6_method_3_code 4 none) = true := cd_tw 589 (by decide +kernel) (by decide +kernel)
theorem ml_Re_34 : (.methodLink "CapabilityDomains$Reach" 34 ⟨"CapabilityDomains$Domain", "hasObject", "(I)Z"⟩ : Cond) ∈ lw_tbl ∧ cd_gw (.methodLink "CapabilityDomains$Reach" 34 ⟨"CapabilityDomains$Domain", "hasObject", "(I)Z"⟩) = true := cd_tw 590 (by decide +kernel) (by decide +kernel)
theorem ml_Cd_180 : (.methodLink "CapabilityDomains" 180 ⟨"CapabilityDomains$Reach", "copyInto", "(LCapabilityDomains$Domain;)V"⟩ : Cond) ∈ lw_tbl ∧ cd_gw (.methodLink "CapabilityDomains" 180 ⟨"CapabilityDomains$Reach", "copyInto", "(LCapabilityDomains$Domain;)V"⟩) = true := cd_tw 592 (by decide +kernel) (by decide +kernel)
theorem im_Re_copyInto : (.instanceMethod ⟨"CapabilityDomains$Reach", "copyInto", "(LCapabilityDomains$Domain;)V"⟩ : Cond) ∈ lw_tbl ∧ cd_gw (.instanceMethod ⟨"CapabilityDomains$Reach", "copyInto", "(LCapabilityDomains$Domain;)V"⟩) = true := cd_tw 593 (by decide +kernel) (by decide +kernel)
theorem se_Re_copyInto : (.selects "CapabilityDomains$Reach" ⟨"CapabilityDomains$Reach", "copyInto", "(LCapabilityDomains$Domain;)V"⟩ ⟨"CapabilityDomains$Reach", "copyInto", "(LCapabilityDomains$Domain;)V"⟩ : Cond) ∈ lw_tbl ∧ cd_gw (.selects "CapabilityDomains$Reach" ⟨"CapabilityDomains$Reach", "copyInto", "(LCapabilityDomains$Domain;)V"⟩ ⟨"CapabilityDomains$Reach", "copyInto", "(LCapabilityDomains$Domain;)V"⟩) = true := cd_tw 594 (by decide +kernel) (by decide +kernel)
theorem cw_Re_copyInto : (.code ⟨"CapabilityDomains$Reach", "copyInto", "(LCapabilityDomains$Domain;)V"⟩ prog_6_method_4_code 3 none : Cond) ∈ lw_tbl ∧ cd_gw (.code ⟨"CapabilityDomains$Reach", "copyInto", "(LCapabilityDomains$Domain;)V"⟩ prog_6_method_4_code 3 none) = true := cd_tw 595 (by decide +kernel) (by decide +kernel)
theorem ml_Re_55 : (.methodLink "CapabilityDomains$Reach" 55 ⟨"CapabilityDomains$Domain", "makeObject", "()I"⟩ : Cond) ∈ lw_tbl ∧ cd_gw (.methodLink "CapabilityDomains$Reach" 55 ⟨"CapabilityDomains$Domain", "makeObject", "()I"⟩) = true := cd_tw 596 (by decide +kernel) (by decide +kernel)
theorem ml_Re_59 : (.methodLink "CapabilityDomains$Reach" 59 ⟨"CapabilityDomains$Reach", "copyFields", "(LCapabilityDomains$DomainObject;LCapabilityDomains$DomainObject;)V"⟩ : Cond) ∈ lw_tbl ∧ cd_gw (.methodLink "CapabilityDomains$Reach" 59 ⟨"CapabilityDomains$Reach", "copyFields", "(LCapabilityDomains$DomainObject;LCapabilityDomains$DomainObject;)V"⟩) = true := cd_tw 597 (by decide +kernel) (by decide +kernel)
theorem im_Re_copyFields : (.instanceMethod ⟨"CapabilityDomains$Reach", "copyFields", "(LCapabilityDomains$DomainObject;LCapabilityDomains$DomainObject;)V"⟩ : Cond) ∈ lw_tbl ∧ cd_gw (.instanceMethod ⟨"CapabilityDomains$Reach", "copyFields", "(LCapabilityDomains$DomainObject;LCapabilityDomains$DomainObject;)V"⟩) = true := cd_tw 599 (by decide +kernel) (by decide +kernel)
theorem cw_Re_copyFields : (.code ⟨"CapabilityDomains$Reach", "copyFields", "(LCapabilityDomains$DomainObject;LCapabilityDomains$DomainObject;)V"⟩ prog_6_method_5_code 5 none : Cond) ∈ lw_tbl ∧ cd_gw (.code ⟨"CapabilityDomains$Reach", "copyFields", "(LCapabilityDomains$DomainObject;LCapabilityDomains$DomainObject;)V"⟩ prog_6_method_5_code 5 none) = true := cd_tw 600 (by decide +kernel) (by decide +kernel)
theorem ml_Re_63 : (.methodLink "CapabilityDomains$Reach" 63 ⟨"CapabilityDomains$Field", "isLink", "()Z"⟩ : Cond) ∈ lw_tbl ∧ cd_gw (.methodLink "CapabilityDomains$Reach" 63 ⟨"CapabilityDomains$Field", "isLink", "()Z"⟩) = true := cd_tw 601 (by decide +kernel) (by decide +kernel)
theorem ml_Re_67 : (.methodLink "CapabilityDomains$Reach" 67 ⟨"CapabilityDomains$Field", "becomeLink", "(I)V"⟩ : Cond) ∈ lw_tbl ∧ cd_gw (.methodLink "CapabilityDomains$Reach" 67 ⟨"CapabilityDomains$Field", "becomeLink", "(I)V"⟩) = true := cd_tw 602 (by decide +kernel) (by decide +kernel)
theorem ml_Re_75 : (.methodLink "CapabilityDomains$Reach" 75 ⟨"CapabilityDomains$Field", "becomeCapability", "(LCapabilityDomains$Capability;)V"⟩ : Cond) ∈ lw_tbl ∧ cd_gw (.methodLink "CapabilityDomains$Reach" 75 ⟨"CapabilityDomains$Field", "becomeCapability", "(LCapabilityDomains$Capability;)V"⟩) = true := cd_tw 603 (by decide +kernel) (by decide +kernel)
theorem ml_Re_82 : (.methodLink "CapabilityDomains$Reach" 82 ⟨"CapabilityDomains$Field", "becomeNumber", "(I)V"⟩ : Cond) ∈ lw_tbl ∧ cd_gw (.methodLink "CapabilityDomains$Reach" 82 ⟨"CapabilityDomains$Field", "becomeNumber", "(I)V"⟩) = true := cd_tw 604 (by decide +kernel) (by decide +kernel)
theorem ml_La_123 : (.methodLink "CapabilityDomainsLaw" 123 ⟨"CapabilityDomainsLaw", "take", "(LCapabilityDomains;IIII[J)I"⟩ : Cond) ∈ lw_tbl ∧ cd_gw (.methodLink "CapabilityDomainsLaw" 123 ⟨"CapabilityDomainsLaw", "take", "(LCapabilityDomains;IIII[J)I"⟩) = true := cd_tw 605 (by decide +kernel) (by decide +kernel)
theorem st_La_take : (.static ⟨"CapabilityDomainsLaw", "take", "(LCapabilityDomains;IIII[J)I"⟩ : Cond) ∈ lw_tbl ∧ cd_gw (.static ⟨"CapabilityDomainsLaw", "take", "(LCapabilityDomains;IIII[J)I"⟩) = true := cd_tw 606 (by decide +kernel) (by decide +kernel)
theorem cw_La_take : (.codeWith ⟨"CapabilityDomainsLaw", "take", "(LCapabilityDomains;IIII[J)I"⟩ method_15_code 7 (some .int) [(0, 14, 17, 19), (0, 14, 21, 13), (0, 14, 25, 27), (0, 14, 29, 44), (0, 14, 33, 29), (0, 14, 37, 21)] : Cond) ∈ lw_tbl ∧ cd_gw (.codeWith ⟨"CapabilityDomainsLaw", "take", "(LCapabilityDomains;IIII[J)I"⟩ method_15_code 7 (some .int) [(0, 14, 17, 19), (0, 14, 21, 13), (0, 14, 25, 27), (0, 14, 29, 44), (0, 14, 33, 29), (0, 14, 37, 21)]) = true := cd_tw 607 (by decide +kernel) (by decide +kernel)
theorem ml_La_63 : (.methodLink "CapabilityDomainsLaw" 63 ⟨"CapabilityDomains", "take", "(IIII)I"⟩ : Cond) ∈ lw_tbl ∧ cd_gw (.methodLink "CapabilityDomainsLaw" 63 ⟨"CapabilityDomains", "take", "(IIII)I"⟩) = true := cd_tw 608 (by decide +kernel) (by decide +kernel)
theorem im_Cd_take : (.instanceMethod ⟨"CapabilityDomains", "take", "(IIII)I"⟩ : Cond) ∈ lw_tbl ∧ cd_gw (.instanceMethod ⟨"CapabilityDomains", "take", "(IIII)I"⟩) = true := cd_tw 609 (by decide +kernel) (by decide +kernel)
theorem se_Cd_take : (.selects "CapabilityDomains" ⟨"CapabilityDomains", "take", "(IIII)I"⟩ ⟨"CapabilityDomains", "take", "(IIII)I"⟩ : Cond) ∈ lw_tbl ∧ cd_gw (.selects "CapabilityDomains" ⟨"CapabilityDomains", "take", "(IIII)I"⟩ ⟨"CapabilityDomains", "take", "(IIII)I"⟩) = true := cd_tw 610 (by decide +kernel) (by decide +kernel)
theorem cw_Cd_take : (.code ⟨"CapabilityDomains", "take", "(IIII)I"⟩ prog_1_method_14_code 7 (some .int) : Cond) ∈ lw_tbl ∧ cd_gw (.code ⟨"CapabilityDomains", "take", "(IIII)I"⟩ prog_1_method_14_code 7 (some .int)) = true := cd_tw 611 (by decide +kernel) (by decide +kernel)
theorem ml_La_126 : (.methodLink "CapabilityDomainsLaw" 126 ⟨"CapabilityDomainsLaw", "free", "(LCapabilityDomains;II[J)I"⟩ : Cond) ∈ lw_tbl ∧ cd_gw (.methodLink "CapabilityDomainsLaw" 126 ⟨"CapabilityDomainsLaw", "free", "(LCapabilityDomains;II[J)I"⟩) = true := cd_tw 613 (by decide +kernel) (by decide +kernel)
theorem st_La_free : (.static ⟨"CapabilityDomainsLaw", "free", "(LCapabilityDomains;II[J)I"⟩ : Cond) ∈ lw_tbl ∧ cd_gw (.static ⟨"CapabilityDomainsLaw", "free", "(LCapabilityDomains;II[J)I"⟩) = true := cd_tw 614 (by decide +kernel) (by decide +kernel)
theorem cw_La_free : (.codeWith ⟨"CapabilityDomainsLaw", "free", "(LCapabilityDomains;II[J)I"⟩ method_16_code 5 (some .int) [(0, 10, 13, 19), (0, 10, 17, 13), (0, 10, 21, 27), (0, 10, 25, 44)] : Cond) ∈ lw_tbl ∧ cd_gw (.codeWith ⟨"CapabilityDomainsLaw", "free", "(LCapabilityDomains;II[J)I"⟩ method_16_code 5 (some .int) [(0, 10, 13, 19), (0, 10, 17, 13), (0, 10, 21, 27), (0, 10, 25, 44)]) = true := cd_tw 615 (by decide +kernel) (by decide +kernel)
theorem ml_La_66 : (.methodLink "CapabilityDomainsLaw" 66 ⟨"CapabilityDomains", "free", "(II)I"⟩ : Cond) ∈ lw_tbl ∧ cd_gw (.methodLink "CapabilityDomainsLaw" 66 ⟨"CapabilityDomains", "free", "(II)I"⟩) = true := cd_tw 616 (by decide +kernel) (by decide +kernel)
theorem im_Cd_free : (.instanceMethod ⟨"CapabilityDomains", "free", "(II)I"⟩ : Cond) ∈ lw_tbl ∧ cd_gw (.instanceMethod ⟨"CapabilityDomains", "free", "(II)I"⟩) = true := cd_tw 617 (by decide +kernel) (by decide +kernel)
theorem se_Cd_free : (.selects "CapabilityDomains" ⟨"CapabilityDomains", "free", "(II)I"⟩ ⟨"CapabilityDomains", "free", "(II)I"⟩ : Cond) ∈ lw_tbl ∧ cd_gw (.selects "CapabilityDomains" ⟨"CapabilityDomains", "free", "(II)I"⟩ ⟨"CapabilityDomains", "free", "(II)I"⟩) = true := cd_tw 618 (by decide +kernel) (by decide +kernel)
theorem cw_Cd_free : (.code ⟨"CapabilityDomains", "free", "(II)I"⟩ prog_1_method_15_code 5 (some .int) : Cond) ∈ lw_tbl ∧ cd_gw (.code ⟨"CapabilityDomains", "free", "(II)I"⟩ prog_1_method_15_code 5 (some .int)) = true := cd_tw 619 (by decide +kernel) (by decide +kernel)
theorem ml_Cd_194 : (.methodLink "CapabilityDomains" 194 ⟨"CapabilityDomains$Domain", "removeObject", "(I)I"⟩ : Cond) ∈ lw_tbl ∧ cd_gw (.methodLink "CapabilityDomains" 194 ⟨"CapabilityDomains$Domain", "removeObject", "(I)I"⟩) = true := cd_tw 620 (by decide +kernel) (by decide +kernel)
theorem im_Do_removeObject : (.instanceMethod ⟨"CapabilityDomains$Domain", "removeObject", "(I)I"⟩ : Cond) ∈ lw_tbl ∧ cd_gw (.instanceMethod ⟨"CapabilityDomains$Domain", "removeObject", "(I)I"⟩) = true := cd_tw 621 (by decide +kernel) (by decide +kernel)
theorem se_Do_removeObject : (.selects "CapabilityDomains$Domain" ⟨"CapabilityDomains$Domain", "removeObject", "(I)I"⟩ ⟨"CapabilityDomains$Domain", "removeObject", "(I)I"⟩ : Cond) ∈ lw_tbl ∧ cd_gw (.selects "CapabilityDomains$Domain" ⟨"CapabilityDomains$Domain", "removeObject", "(I)I"⟩ ⟨"CapabilityDomains$Domain", "removeObject", "(I)I"⟩) = true := cd_tw 622 (by decide +kernel) (by decide +kernel)
theorem cw_Do_removeObject : (.code ⟨"CapabilityDomains$Domain", "removeObject", "(I)I"⟩ prog_3_method_5_code 4 (some .int) : Cond) ∈ lw_tbl ∧ cd_gw (.code ⟨"CapabilityDomains$Domain", "removeObject", "(I)I"⟩ prog_3_method_5_code 4 (some .int)) = true := cd_tw 623 (by decide +kernel) (by decide +kernel)
theorem ml_Do_31 : (.methodLink "CapabilityDomains$Domain" 31 ⟨"CapabilityDomains$DomainObject", "unlink", "(I)I"⟩ : Cond) ∈ lw_tbl ∧ cd_gw (.methodLink "CapabilityDomains$Domain" 31 ⟨"CapabilityDomains$DomainObject", "unlink", "(I)I"⟩) = true := cd_tw 624 (by decide +kernel) (by decide +kernel)
theorem im_Ob_unlink : (.instanceMethod ⟨"CapabilityDomains$DomainObject", "unlink", "(I)I"⟩ : Cond) ∈ lw_tbl ∧ cd_gw (.instanceMethod ⟨"CapabilityDomains$DomainObject", "unlink", "(I)I"⟩) = true := cd_tw 625 (by decide +kernel) (by decide +kernel)
theorem se_Ob_unlink : (.selects "CapabilityDomains$DomainObject" ⟨"CapabilityDomains$DomainObject", "unlink", "(I)I"⟩ ⟨"CapabilityDomains$DomainObject", "unlink", "(I)I"⟩ : Cond) ∈ lw_tbl ∧ cd_gw (.selects "CapabilityDomains$DomainObject" ⟨"CapabilityDomains$DomainObject", "unlink", "(I)I"⟩ ⟨"CapabilityDomains$DomainObject", "unlink", "(I)I"⟩) = true := cd_tw 626 (by decide +kernel) (by decide +kernel)
theorem cw_Ob_unlink : (.code ⟨"CapabilityDomains$DomainObject", "unlink", "(I)I"⟩ prog_4_method_3_code 4 (some .int) : Cond) ∈ lw_tbl ∧ cd_gw (.code ⟨"CapabilityDomains$DomainObject", "unlink", "(I)I"⟩ prog_4_method_3_code 4 (some .int)) = true := cd_tw 627 (by decide +kernel) (by decide +kernel)
theorem ml_La_129 : (.methodLink "CapabilityDomainsLaw" 129 ⟨"CapabilityDomainsLaw", "end", "(LCapabilityDomains;I[J)I"⟩ : Cond) ∈ lw_tbl ∧ cd_gw (.methodLink "CapabilityDomainsLaw" 129 ⟨"CapabilityDomainsLaw", "end", "(LCapabilityDomains;I[J)I"⟩) = true := cd_tw 628 (by decide +kernel) (by decide +kernel)
theorem st_La_end : (.static ⟨"CapabilityDomainsLaw", "end", "(LCapabilityDomains;I[J)I"⟩ : Cond) ∈ lw_tbl ∧ cd_gw (.static ⟨"CapabilityDomainsLaw", "end", "(LCapabilityDomains;I[J)I"⟩) = true := cd_tw 629 (by decide +kernel) (by decide +kernel)
theorem cw_La_end : (.codeWith ⟨"CapabilityDomainsLaw", "end", "(LCapabilityDomains;I[J)I"⟩ method_17_code 4 (some .int) [(0, 9, 12, 19), (0, 9, 15, 13)] : Cond) ∈ lw_tbl ∧ cd_gw (.codeWith ⟨"CapabilityDomainsLaw", "end", "(LCapabilityDomains;I[J)I"⟩ method_17_code 4 (some .int) [(0, 9, 12, 19), (0, 9, 15, 13)]) = true := cd_tw 630 (by decide +kernel) (by decide +kernel)
theorem ml_La_69 : (.methodLink "CapabilityDomainsLaw" 69 ⟨"CapabilityDomains", "end", "(I)I"⟩ : Cond) ∈ lw_tbl ∧ cd_gw (.methodLink "CapabilityDomainsLaw" 69 ⟨"CapabilityDomains", "end", "(I)I"⟩) = true := cd_tw 631 (by decide +kernel) (by decide +kernel)
theorem im_Cd_end : (.instanceMethod ⟨"CapabilityDomains", "end", "(I)I"⟩ : Cond) ∈ lw_tbl ∧ cd_gw (.instanceMethod ⟨"CapabilityDomains", "end", "(I)I"⟩) = true := cd_tw 632 (by decide +kernel) (by decide +kernel)
theorem se_Cd_end : (.selects "CapabilityDomains" ⟨"CapabilityDomains", "end", "(I)I"⟩ ⟨"CapabilityDomains", "end", "(I)I"⟩ : Cond) ∈ lw_tbl ∧ cd_gw (.selects "CapabilityDomains" ⟨"CapabilityDomains", "end", "(I)I"⟩ ⟨"CapabilityDomains", "end", "(I)I"⟩) = true := cd_tw 633 (by decide +kernel) (by decide +kernel)
theorem cw_Cd_end : (.code ⟨"CapabilityDomains", "end", "(I)I"⟩ prog_1_method_16_code 2 (some .int) : Cond) ∈ lw_tbl ∧ cd_gw (.code ⟨"CapabilityDomains", "end", "(I)I"⟩ prog_1_method_16_code 2 (some .int)) = true := cd_tw 634 (by decide +kernel) (by decide +kernel)
theorem ml_Cd_198 : (.methodLink "CapabilityDomains" 198 ⟨"CapabilityDomains$Domain", "finish", "()V"⟩ : Cond) ∈ lw_tbl ∧ cd_gw (.methodLink "CapabilityDomains" 198 ⟨"CapabilityDomains$Domain", "finish", "()V"⟩) = true := cd_tw 635 (by decide +kernel) (by decide +kernel)
theorem im_Do_finish : (.instanceMethod ⟨"CapabilityDomains$Domain", "finish", "()V"⟩ : Cond) ∈ lw_tbl ∧ cd_gw (.instanceMethod ⟨"CapabilityDomains$Domain", "finish", "()V"⟩) = true := cd_tw 636 (by decide +kernel) (by decide +kernel)
theorem se_Do_finish : (.selects "CapabilityDomains$Domain" ⟨"CapabilityDomains$Domain", "finish", "()V"⟩ ⟨"CapabilityDomains$Domain", "finish", "()V"⟩ : Cond) ∈ lw_tbl ∧ cd_gw (.selects "CapabilityDomains$Domain" ⟨"CapabilityDomains$Domain", "finish", "()V"⟩ ⟨"CapabilityDomains$Domain", "finish", "()V"⟩) = true := cd_tw 637 (by decide +kernel) (by decide +kernel)
theorem cw_Do_finish : (.code ⟨"CapabilityDomains$Domain", "finish", "()V"⟩ prog_3_method_7_code 2 none : Cond) ∈ lw_tbl ∧ cd_gw (.code ⟨"CapabilityDomains$Domain", "finish", "()V"⟩ prog_3_method_7_code 2 none) = true := cd_tw 638 (by decide +kernel) (by decide +kernel)
theorem kl_La_73 : (.classLink "CapabilityDomainsLaw" 73 "CapabilityDomainsModel" : Cond) ∈ lw_tbl ∧ cd_gw (.classLink "CapabilityDomainsLaw" 73 "CapabilityDomainsModel") = true := cd_tw 639 (by decide +kernel) (by decide +kernel)
theorem ia_Mo : (.instantiable "CapabilityDomainsModel" 18 : Cond) ∈ lw_tbl ∧ cd_gw (.instantiable "CapabilityDomainsModel" 18) = true := cd_tw 640 (by decide +kernel) (by decide +kernel)
theorem ml_La_75 : (.methodLink "CapabilityDomainsLaw" 75 ⟨"CapabilityDomainsModel", "<init>", "()V"⟩ : Cond) ∈ lw_tbl ∧ cd_gw (.methodLink "CapabilityDomainsLaw" 75 ⟨"CapabilityDomainsModel", "<init>", "()V"⟩) = true := cd_tw 641 (by decide +kernel) (by decide +kernel)
theorem im_Mo_init : (.instanceMethod ⟨"CapabilityDomainsModel", "<init>", "()V"⟩ : Cond) ∈ lw_tbl ∧ cd_gw (.instanceMethod ⟨"CapabilityDomainsModel", "<init>", "()V"⟩) = true := cd_tw 642 (by decide +kernel) (by decide +kernel)
theorem cw_Mo_init : (.code ⟨"CapabilityDomainsModel", "<init>", "()V"⟩ prog_8_method_1_code 2 none : Cond) ∈ lw_tbl ∧ cd_gw (.code ⟨"CapabilityDomainsModel", "<init>", "()V"⟩ prog_8_method_1_code 2 none) = true := cd_tw 643 (by decide +kernel) (by decide +kernel)
theorem ml_Mo_1 : (.methodLink "CapabilityDomainsModel" 1 ⟨"java/lang/Object", "<init>", "()V"⟩ : Cond) ∈ lw_tbl ∧ cd_gw (.methodLink "CapabilityDomainsModel" 1 ⟨"java/lang/Object", "<init>", "()V"⟩) = true := cd_tw 644 (by decide +kernel) (by decide +kernel)
theorem lk_Mo_7 : (.fieldLink "CapabilityDomainsModel" 7 "CapabilityDomainsModel" "domains" "I" : Cond) ∈ lw_tbl ∧ cd_gw (.fieldLink "CapabilityDomainsModel" 7 "CapabilityDomainsModel" "domains" "I") = true := cd_tw 645 (by decide +kernel) (by decide +kernel)
theorem lk_Mo_13 : (.fieldLink "CapabilityDomainsModel" 13 "CapabilityDomainsModel" "made" "I" : Cond) ∈ lw_tbl ∧ cd_gw (.fieldLink "CapabilityDomainsModel" 13 "CapabilityDomainsModel" "made" "I") = true := cd_tw 646 (by decide +kernel) (by decide +kernel)
theorem lk_Mo_16 : (.fieldLink "CapabilityDomainsModel" 16 "CapabilityDomainsModel" "code" "I" : Cond) ∈ lw_tbl ∧ cd_gw (.fieldLink "CapabilityDomainsModel" 16 "CapabilityDomainsModel" "code" "I") = true := cd_tw 647 (by decide +kernel) (by decide +kernel)
theorem lk_Mo_19 : (.fieldLink "CapabilityDomainsModel" 19 "CapabilityDomainsModel" "ended" "[Z" : Cond) ∈ lw_tbl ∧ cd_gw (.fieldLink "CapabilityDomainsModel" 19 "CapabilityDomainsModel" "ended" "[Z") = true := cd_tw 648 (by decide +kernel) (by decide +kernel)
theorem lk_Mo_23 : (.fieldLink "CapabilityDomainsModel" 23 "CapabilityDomainsModel" "there" "[Z" : Cond) ∈ lw_tbl ∧ cd_gw (.fieldLink "CapabilityDomainsModel" 23 "CapabilityDomainsModel" "there" "[Z") = true := cd_tw 649 (by decide +kernel) (by decide +kernel)
theorem lk_Mo_26 : (.fieldLink "CapabilityDomainsModel" 26 "CapabilityDomainsModel" "sort" "[I" : Cond) ∈ lw_tbl ∧ cd_gw (.fieldLink "CapabilityDomainsModel" 26 "CapabilityDomainsModel" "sort" "[I") = true := cd_tw 650 (by decide +kernel) (by decide +kernel)
theorem lk_Mo_30 : (.fieldLink "CapabilityDomainsModel" 30 "CapabilityDomainsModel" "value" "[I" : Cond) ∈ lw_tbl ∧ cd_gw (.fieldLink "CapabilityDomainsModel" 30 "CapabilityDomainsModel" "value" "[I") = true := cd_tw 651 (by decide +kernel) (by decide +kernel)
theorem lk_Mo_33 : (.fieldLink "CapabilityDomainsModel" 33 "CapabilityDomainsModel" "slot" "[I" : Cond) ∈ lw_tbl ∧ cd_gw (.fieldLink "CapabilityDomainsModel" 33 "CapabilityDomainsModel" "slot" "[I") = true := cd_tw 652 (by decide +kernel) (by decide +kernel)
theorem lk_Mo_36 : (.fieldLink "CapabilityDomainsModel" 36 "CapabilityDomainsModel" "target" "[I" : Cond) ∈ lw_tbl ∧ cd_gw (.fieldLink "CapabilityDomainsModel" 36 "CapabilityDomainsModel" "target" "[I") = true := cd_tw 653 (by decide +kernel) (by decide +kernel)
theorem lk_Mo_39 : (.fieldLink "CapabilityDomainsModel" 39 "CapabilityDomainsModel" "rights" "[I" : Cond) ∈ lw_tbl ∧ cd_gw (.fieldLink "CapabilityDomainsModel" 39 "CapabilityDomainsModel" "rights" "[I") = true := cd_tw 654 (by decide +kernel) (by decide +kernel)
theorem lk_Mo_42 : (.fieldLink "CapabilityDomainsModel" 42 "CapabilityDomainsModel" "uses" "[I" : Cond) ∈ lw_tbl ∧ cd_gw (.fieldLink "CapabilityDomainsModel" 42 "CapabilityDomainsModel" "uses" "[I") = true := cd_tw 655 (by decide +kernel) (by decide +kernel)
theorem lk_Mo_45 : (.fieldLink "CapabilityDomainsModel" 45 "CapabilityDomainsModel" "parent" "[I" : Cond) ∈ lw_tbl ∧ cd_gw (.fieldLink "CapabilityDomainsModel" 45 "CapabilityDomainsModel" "parent" "[I") = true := cd_tw 656 (by decide +kernel) (by decide +kernel)
theorem lk_Mo_48 : (.fieldLink "CapabilityDomainsModel" 48 "CapabilityDomainsModel" "gone" "[Z" : Cond) ∈ lw_tbl ∧ cd_gw (.fieldLink "CapabilityDomainsModel" 48 "CapabilityDomainsModel" "gone" "[Z") = true := cd_tw 657 (by decide +kernel) (by decide +kernel)
theorem lk_Mo_51 : (.fieldLink "CapabilityDomainsModel" 51 "CapabilityDomainsModel" "found" "[I" : Cond) ∈ lw_tbl ∧ cd_gw (.fieldLink "CapabilityDomainsModel" 51 "CapabilityDomainsModel" "found" "[I") = true := cd_tw 658 (by decide +kernel) (by decide +kernel)
theorem lk_Mo_54 : (.fieldLink "CapabilityDomainsModel" 54 "CapabilityDomainsModel" "copyOf" "[I" : Cond) ∈ lw_tbl ∧ cd_gw (.fieldLink "CapabilityDomainsModel" 54 "CapabilityDomainsModel" "copyOf" "[I") = true := cd_tw 659 (by decide +kernel) (by decide +kernel)
theorem lk_Mo_57 : (.fieldLink "CapabilityDomainsModel" 57 "CapabilityDomainsModel" "under" "[I" : Cond) ∈ lw_tbl ∧ cd_gw (.fieldLink "CapabilityDomainsModel" 57 "CapabilityDomainsModel" "under" "[I") = true := cd_tw 660 (by decide +kernel) (by decide +kernel)
theorem lk_Mo_60 : (.fieldLink "CapabilityDomainsModel" 60 "CapabilityDomainsModel" "next" "[I" : Cond) ∈ lw_tbl ∧ cd_gw (.fieldLink "CapabilityDomainsModel" 60 "CapabilityDomainsModel" "next" "[I") = true := cd_tw 661 (by decide +kernel) (by decide +kernel)
theorem lk_Mo_63 : (.fieldLink "CapabilityDomainsModel" 63 "CapabilityDomainsModel" "copies" "I" : Cond) ∈ lw_tbl ∧ cd_gw (.fieldLink "CapabilityDomainsModel" 63 "CapabilityDomainsModel" "copies" "I") = true := cd_tw 662 (by decide +kernel) (by decide +kernel)
theorem ml_La_82 : (.methodLink "CapabilityDomainsLaw" 82 ⟨"CapabilityDomainsModel", "thrown", "()I"⟩ : Cond) ∈ lw_tbl ∧ cd_gw (.methodLink "CapabilityDomainsLaw" 82 ⟨"CapabilityDomainsModel", "thrown", "()I"⟩) = true := cd_tw 700 (by decide +kernel) (by decide +kernel)
theorem im_Mo_thrown : (.instanceMethod ⟨"CapabilityDomainsModel", "thrown", "()I"⟩ : Cond) ∈ lw_tbl ∧ cd_gw (.instanceMethod ⟨"CapabilityDomainsModel", "thrown", "()I"⟩) = true := cd_tw 701 (by decide +kernel) (by decide +kernel)
theorem se_Mo_thrown : (.selects "CapabilityDomainsModel" ⟨"CapabilityDomainsModel", "thrown", "()I"⟩ ⟨"CapabilityDomainsModel", "thrown", "()I"⟩ : Cond) ∈ lw_tbl ∧ cd_gw (.selects "CapabilityDomainsModel" ⟨"CapabilityDomainsModel", "thrown", "()I"⟩ ⟨"CapabilityDomainsModel", "thrown", "()I"⟩) = true := cd_tw 702 (by decide +kernel) (by decide +kernel)
theorem cw_Mo_thrown : (.code ⟨"CapabilityDomainsModel", "thrown", "()I"⟩ prog_8_method_2_code 1 (some .int) : Cond) ∈ lw_tbl ∧ cd_gw (.code ⟨"CapabilityDomainsModel", "thrown", "()I"⟩ prog_8_method_2_code 1 (some .int)) = true := cd_tw 703 (by decide +kernel) (by decide +kernel)
theorem ml_La_81 : (.methodLink "CapabilityDomainsLaw" 81 ⟨"CapabilityDomainsModel", "domain", "()I"⟩ : Cond) ∈ lw_tbl ∧ cd_gw (.methodLink "CapabilityDomainsLaw" 81 ⟨"CapabilityDomainsModel", "domain", "()I"⟩) = true := cd_tw 704 (by decide +kernel) (by decide +kernel)
theorem im_Mo_domain : (.instanceMethod ⟨"CapabilityDomainsModel", "domain", "()I"⟩ : Cond) ∈ lw_tbl ∧ cd_gw (.instanceMethod ⟨"CapabilityDomainsModel", "domain", "()I"⟩) = true := cd_tw 705 (by decide +kernel) (by decide +kernel)
theorem se_Mo_domain : (.selects "CapabilityDomainsModel" ⟨"CapabilityDomainsModel", "domain", "()I"⟩ ⟨"CapabilityDomainsModel", "domain", "()I"⟩ : Cond) ∈ lw_tbl ∧ cd_gw (.selects "CapabilityDomainsModel" ⟨"CapabilityDomainsModel", "domain", "()I"⟩ ⟨"CapabilityDomainsModel", "domain", "()I"⟩) = true := cd_tw 706 (by decide +kernel) (by decide +kernel)
theorem cw_Mo_domain : (.code ⟨"CapabilityDomainsModel", "domain", "()I"⟩ prog_8_method_15_code 1 (some .int) : Cond) ∈ lw_tbl ∧ cd_gw (.code ⟨"CapabilityDomainsModel", "domain", "()I"⟩ prog_8_method_15_code 1 (some .int)) = true := cd_tw 707 (by decide +kernel) (by decide +kernel)
theorem ml_Mo_84 : (.methodLink "CapabilityDomainsModel" 84 ⟨"CapabilityDomainsModel", "fail", "(I)I"⟩ : Cond) ∈ lw_tbl ∧ cd_gw (.methodLink "CapabilityDomainsModel" 84 ⟨"CapabilityDomainsModel", "fail", "(I)I"⟩) = true := cd_tw 708 (by decide +kernel) (by decide +kernel)
theorem im_Mo_fail : (.instanceMethod ⟨"CapabilityDomainsModel", "fail", "(I)I"⟩ : Cond) ∈ lw_tbl ∧ cd_gw (.instanceMethod ⟨"CapabilityDomainsModel", "fail", "(I)I"⟩) = true := cd_tw 710 (by decide +kernel) (by decide +kernel)
theorem cw_Mo_fail : (.code ⟨"CapabilityDomainsModel", "fail", "(I)I"⟩ prog_8_method_3_code 2 (some .int) : Cond) ∈ lw_tbl ∧ cd_gw (.code ⟨"CapabilityDomainsModel", "fail", "(I)I"⟩ prog_8_method_3_code 2 (some .int)) = true := cd_tw 711 (by decide +kernel) (by decide +kernel)
theorem ml_Mo_87 : (.methodLink "CapabilityDomainsModel" 87 ⟨"CapabilityDomainsModel", "fine", "(I)I"⟩ : Cond) ∈ lw_tbl ∧ cd_gw (.methodLink "CapabilityDomainsModel" 87 ⟨"CapabilityDomainsModel", "fine", "(I)I"⟩) = true := cd_tw 712 (by decide +kernel) (by decide +kernel)
theorem im_Mo_fine : (.instanceMethod ⟨"CapabilityDomainsModel", "fine", "(I)I"⟩ : Cond) ∈ lw_tbl ∧ cd_gw (.instanceMethod ⟨"CapabilityDomainsModel", "fine", "(I)I"⟩) = true := cd_tw 714 (by decide +kernel) (by decide +kernel)
theorem cw_Mo_fine : (.code ⟨"CapabilityDomainsModel", "fine", "(I)I"⟩ prog_8_method_4_code 2 (some .int) : Cond) ∈ lw_tbl ∧ cd_gw (.code ⟨"CapabilityDomainsModel", "fine", "(I)I"⟩ prog_8_method_4_code 2 (some .int)) = true := cd_tw 715 (by decide +kernel) (by decide +kernel)
theorem ml_La_88 : (.methodLink "CapabilityDomainsLaw" 88 ⟨"CapabilityDomainsModel", "object", "(I)I"⟩ : Cond) ∈ lw_tbl ∧ cd_gw (.methodLink "CapabilityDomainsLaw" 88 ⟨"CapabilityDomainsModel", "object", "(I)I"⟩) = true := cd_tw 716 (by decide +kernel) (by decide +kernel)
theorem im_Mo_object : (.instanceMethod ⟨"CapabilityDomainsModel", "object", "(I)I"⟩ : Cond) ∈ lw_tbl ∧ cd_gw (.instanceMethod ⟨"CapabilityDomainsModel", "object", "(I)I"⟩) = true := cd_tw 717 (by decide +kernel) (by decide +kernel)
theorem se_Mo_object : (.selects "CapabilityDomainsModel" ⟨"CapabilityDomainsModel", "object", "(I)I"⟩ ⟨"CapabilityDomainsModel", "object", "(I)I"⟩ : Cond) ∈ lw_tbl ∧ cd_gw (.selects "CapabilityDomainsModel" ⟨"CapabilityDomainsModel", "object", "(I)I"⟩ ⟨"CapabilityDomainsModel", "object", "(I)I"⟩) = true := cd_tw 718 (by decide +kernel) (by decide +kernel)
theorem cw_Mo_object : (.code ⟨"CapabilityDomainsModel", "object", "(I)I"⟩ prog_8_method_18_code 2 (some .int) : Cond) ∈ lw_tbl ∧ cd_gw (.code ⟨"CapabilityDomainsModel", "object", "(I)I"⟩ prog_8_method_18_code 2 (some .int)) = true := cd_tw 719 (by decide +kernel) (by decide +kernel)
theorem ml_Mo_78 : (.methodLink "CapabilityDomainsModel" 78 ⟨"CapabilityDomainsModel", "noDomain", "(I)Z"⟩ : Cond) ∈ lw_tbl ∧ cd_gw (.methodLink "CapabilityDomainsModel" 78 ⟨"CapabilityDomainsModel", "noDomain", "(I)Z"⟩) = true := cd_tw 720 (by decide +kernel) (by decide +kernel)
theorem im_Mo_noDomain : (.instanceMethod ⟨"CapabilityDomainsModel", "noDomain", "(I)Z"⟩ : Cond) ∈ lw_tbl ∧ cd_gw (.instanceMethod ⟨"CapabilityDomainsModel", "noDomain", "(I)Z"⟩) = true := cd_tw 722 (by decide +kernel) (by decide +kernel)
theorem cw_Mo_noDomain : (.code ⟨"CapabilityDomainsModel", "noDomain", "(I)Z"⟩ prog_8_method_5_code 2 (some .boolean) : Cond) ∈ lw_tbl ∧ cd_gw (.code ⟨"CapabilityDomainsModel", "noDomain", "(I)Z"⟩ prog_8_method_5_code 2 (some .boolean)) = true := cd_tw 723 (by decide +kernel) (by decide +kernel)
theorem ml_Mo_94 : (.methodLink "CapabilityDomainsModel" 94 ⟨"CapabilityDomainsModel", "objects", "(I)I"⟩ : Cond) ∈ lw_tbl ∧ cd_gw (.methodLink "CapabilityDomainsModel" 94 ⟨"CapabilityDomainsModel", "objects", "(I)I"⟩) = true := cd_tw 724 (by decide +kernel) (by decide +kernel)
theorem im_Mo_objects : (.instanceMethod ⟨"CapabilityDomainsModel", "objects", "(I)I"⟩ : Cond) ∈ lw_tbl ∧ cd_gw (.instanceMethod ⟨"CapabilityDomainsModel", "objects", "(I)I"⟩) = true := cd_tw 726 (by decide +kernel) (by decide +kernel)
theorem cw_Mo_objects : (.code ⟨"CapabilityDomainsModel", "objects", "(I)I"⟩ prog_8_method_16_code 4 (some .int) : Cond) ∈ lw_tbl ∧ cd_gw (.code ⟨"CapabilityDomainsModel", "objects", "(I)I"⟩ prog_8_method_16_code 4 (some .int)) = true := cd_tw 727 (by decide +kernel) (by decide +kernel)
theorem ml_Mo_97 : (.methodLink "CapabilityDomainsModel" 97 ⟨"CapabilityDomainsModel", "newObject", "(I)I"⟩ : Cond) ∈ lw_tbl ∧ cd_gw (.methodLink "CapabilityDomainsModel" 97 ⟨"CapabilityDomainsModel", "newObject", "(I)I"⟩) = true := cd_tw 728 (by decide +kernel) (by decide +kernel)
theorem im_Mo_newObject : (.instanceMethod ⟨"CapabilityDomainsModel", "newObject", "(I)I"⟩ : Cond) ∈ lw_tbl ∧ cd_gw (.instanceMethod ⟨"CapabilityDomainsModel", "newObject", "(I)I"⟩) = true := cd_tw 730 (by decide +kernel) (by decide +kernel)
theorem cw_Mo_newObject : (.code ⟨"CapabilityDomainsModel", "newObject", "(I)I"⟩ prog_8_method_17_code 4 (some .int) : Cond) ∈ lw_tbl ∧ cd_gw (.code ⟨"CapabilityDomainsModel", "newObject", "(I)I"⟩ prog_8_method_17_code 4 (some .int)) = true := cd_tw 731 (by decide +kernel) (by decide +kernel)
theorem ml_Mo_90 : (.methodLink "CapabilityDomainsModel" 90 ⟨"CapabilityDomainsModel", "put", "(III)V"⟩ : Cond) ∈ lw_tbl ∧ cd_gw (.methodLink "CapabilityDomainsModel" 90 ⟨"CapabilityDomainsModel", "put", "(III)V"⟩) = true := cd_tw 732 (by decide +kernel) (by decide +kernel)
theorem im_Mo_put : (.instanceMethod ⟨"CapabilityDomainsModel", "put", "(III)V"⟩ : Cond) ∈ lw_tbl ∧ cd_gw (.instanceMethod ⟨"CapabilityDomainsModel", "put", "(III)V"⟩) = true := cd_tw 734 (by decide +kernel) (by decide +kernel)
theorem cw_Mo_put : (.code ⟨"CapabilityDomainsModel", "put", "(III)V"⟩ prog_8_method_14_code 4 none : Cond) ∈ lw_tbl ∧ cd_gw (.code ⟨"CapabilityDomainsModel", "put", "(III)V"⟩ prog_8_method_14_code 4 none) = true := cd_tw 735 (by decide +kernel) (by decide +kernel)
theorem ml_La_92 : (.methodLink "CapabilityDomainsLaw" 92 ⟨"CapabilityDomainsModel", "set", "(IIII)I"⟩ : Cond) ∈ lw_tbl ∧ cd_gw (.methodLink "CapabilityDomainsLaw" 92 ⟨"CapabilityDomainsModel", "set", "(IIII)I"⟩) = true := cd_tw 736 (by decide +kernel) (by decide +kernel)
theorem im_Mo_set : (.instanceMethod ⟨"CapabilityDomainsModel", "set", "(IIII)I"⟩ : Cond) ∈ lw_tbl ∧ cd_gw (.instanceMethod ⟨"CapabilityDomainsModel", "set", "(IIII)I"⟩) = true := cd_tw 737 (by decide +kernel) (by decide +kernel)
theorem se_Mo_set : (.selects "CapabilityDomainsModel" ⟨"CapabilityDomainsModel", "set", "(IIII)I"⟩ ⟨"CapabilityDomainsModel", "set", "(IIII)I"⟩ : Cond) ∈ lw_tbl ∧ cd_gw (.selects "CapabilityDomainsModel" ⟨"CapabilityDomainsModel", "set", "(IIII)I"⟩ ⟨"CapabilityDomainsModel", "set", "(IIII)I"⟩) = true := cd_tw 738 (by decide +kernel) (by decide +kernel)
theorem cw_Mo_set : (.code ⟨"CapabilityDomainsModel", "set", "(IIII)I"⟩ prog_8_method_19_code 7 (some .int) : Cond) ∈ lw_tbl ∧ cd_gw (.code ⟨"CapabilityDomainsModel", "set", "(IIII)I"⟩ prog_8_method_19_code 7 (some .int)) = true := cd_tw 739 (by decide +kernel) (by decide +kernel)
theorem ml_Mo_100 : (.methodLink "CapabilityDomainsModel" 100 ⟨"CapabilityDomainsModel", "none", "(II)Z"⟩ : Cond) ∈ lw_tbl ∧ cd_gw (.methodLink "CapabilityDomainsModel" 100 ⟨"CapabilityDomainsModel", "none", "(II)Z"⟩) = true := cd_tw 740 (by decide +kernel) (by decide +kernel)
theorem im_Mo_none : (.instanceMethod ⟨"CapabilityDomainsModel", "none", "(II)Z"⟩ : Cond) ∈ lw_tbl ∧ cd_gw (.instanceMethod ⟨"CapabilityDomainsModel", "none", "(II)Z"⟩) = true := cd_tw 742 (by decide +kernel) (by decide +kernel)
theorem cw_Mo_none : (.code ⟨"CapabilityDomainsModel", "none", "(II)Z"⟩ prog_8_method_7_code 3 (some .boolean) : Cond) ∈ lw_tbl ∧ cd_gw (.code ⟨"CapabilityDomainsModel", "none", "(II)Z"⟩ prog_8_method_7_code 3 (some .boolean)) = true := cd_tw 743 (by decide +kernel) (by decide +kernel)
theorem ml_Mo_66 : (.methodLink "CapabilityDomainsModel" 66 ⟨"CapabilityDomainsModel", "out", "(II)Z"⟩ : Cond) ∈ lw_tbl ∧ cd_gw (.methodLink "CapabilityDomainsModel" 66 ⟨"CapabilityDomainsModel", "out", "(II)Z"⟩) = true := cd_tw 744 (by decide +kernel) (by decide +kernel)
theorem im_Mo_out : (.instanceMethod ⟨"CapabilityDomainsModel", "out", "(II)Z"⟩ : Cond) ∈ lw_tbl ∧ cd_gw (.instanceMethod ⟨"CapabilityDomainsModel", "out", "(II)Z"⟩) = true := cd_tw 746 (by decide +kernel) (by decide +kernel)
theorem cw_Mo_out : (.code ⟨"CapabilityDomainsModel", "out", "(II)Z"⟩ prog_8_method_6_code 3 (some .boolean) : Cond) ∈ lw_tbl ∧ cd_gw (.code ⟨"CapabilityDomainsModel", "out", "(II)Z"⟩ prog_8_method_6_code 3 (some .boolean)) = true := cd_tw 747 (by decide +kernel) (by decide +kernel)
theorem ml_La_95 : (.methodLink "CapabilityDomainsLaw" 95 ⟨"CapabilityDomainsModel", "link", "(IIII)I"⟩ : Cond) ∈ lw_tbl ∧ cd_gw (.methodLink "CapabilityDomainsLaw" 95 ⟨"CapabilityDomainsModel", "link", "(IIII)I"⟩) = true := cd_tw 748 (by decide +kernel) (by decide +kernel)
theorem im_Mo_link : (.instanceMethod ⟨"CapabilityDomainsModel", "link", "(IIII)I"⟩ : Cond) ∈ lw_tbl ∧ cd_gw (.instanceMethod ⟨"CapabilityDomainsModel", "link", "(IIII)I"⟩) = true := cd_tw 749 (by decide +kernel) (by decide +kernel)
theorem se_Mo_link : (.selects "CapabilityDomainsModel" ⟨"CapabilityDomainsModel", "link", "(IIII)I"⟩ ⟨"CapabilityDomainsModel", "link", "(IIII)I"⟩ : Cond) ∈ lw_tbl ∧ cd_gw (.selects "CapabilityDomainsModel" ⟨"CapabilityDomainsModel", "link", "(IIII)I"⟩ ⟨"CapabilityDomainsModel", "link", "(IIII)I"⟩) = true := cd_tw 750 (by decide +kernel) (by decide +kernel)
theorem cw_Mo_link : (.code ⟨"CapabilityDomainsModel", "link", "(IIII)I"⟩ prog_8_method_20_code 5 (some .int) : Cond) ∈ lw_tbl ∧ cd_gw (.code ⟨"CapabilityDomainsModel", "link", "(IIII)I"⟩ prog_8_method_20_code 5 (some .int)) = true := cd_tw 751 (by decide +kernel) (by decide +kernel)
theorem ml_La_98 : (.methodLink "CapabilityDomainsLaw" 98 ⟨"CapabilityDomainsModel", "hold", "(IIII)I"⟩ : Cond) ∈ lw_tbl ∧ cd_gw (.methodLink "CapabilityDomainsLaw" 98 ⟨"CapabilityDomainsModel", "hold", "(IIII)I"⟩) = true := cd_tw 752 (by decide +kernel) (by decide +kernel)
theorem im_Mo_hold : (.instanceMethod ⟨"CapabilityDomainsModel", "hold", "(IIII)I"⟩ : Cond) ∈ lw_tbl ∧ cd_gw (.instanceMethod ⟨"CapabilityDomainsModel", "hold", "(IIII)I"⟩) = true := cd_tw 753 (by decide +kernel) (by decide +kernel)
theorem se_Mo_hold : (.selects "CapabilityDomainsModel" ⟨"CapabilityDomainsModel", "hold", "(IIII)I"⟩ ⟨"CapabilityDomainsModel", "hold", "(IIII)I"⟩ : Cond) ∈ lw_tbl ∧ cd_gw (.selects "CapabilityDomainsModel" ⟨"CapabilityDomainsModel", "hold", "(IIII)I"⟩ ⟨"CapabilityDomainsModel", "hold", "(IIII)I"⟩) = true := cd_tw 754 (by decide +kernel) (by decide +kernel)
theorem cw_Mo_hold : (.code ⟨"CapabilityDomainsModel", "hold", "(IIII)I"⟩ prog_8_method_21_code 5 (some .int) : Cond) ∈ lw_tbl ∧ cd_gw (.code ⟨"CapabilityDomainsModel", "hold", "(IIII)I"⟩ prog_8_method_21_code 5 (some .int)) = true := cd_tw 755 (by decide +kernel) (by decide +kernel)
theorem ml_La_102 : (.methodLink "CapabilityDomainsLaw" 102 ⟨"CapabilityDomainsModel", "export", "(IIIII)I"⟩ : Cond) ∈ lw_tbl ∧ cd_gw (.methodLink "CapabilityDomainsLaw" 102 ⟨"CapabilityDomainsModel", "export", "(IIIII)I"⟩) = true := cd_tw 756 (by decide +kernel) (by decide +kernel)
theorem im_Mo_export : (.instanceMethod ⟨"CapabilityDomainsModel", "export", "(IIIII)I"⟩ : Cond) ∈ lw_tbl ∧ cd_gw (.instanceMethod ⟨"CapabilityDomainsModel", "export", "(IIIII)I"⟩) = true := cd_tw 757 (by decide +kernel) (by decide +kernel)
theorem se_Mo_export : (.selects "CapabilityDomainsModel" ⟨"CapabilityDomainsModel", "export", "(IIIII)I"⟩ ⟨"CapabilityDomainsModel", "export", "(IIIII)I"⟩ : Cond) ∈ lw_tbl ∧ cd_gw (.selects "CapabilityDomainsModel" ⟨"CapabilityDomainsModel", "export", "(IIIII)I"⟩ ⟨"CapabilityDomainsModel", "export", "(IIIII)I"⟩) = true := cd_tw 758 (by decide +kernel) (by decide +kernel)
theorem cw_Mo_export : (.code ⟨"CapabilityDomainsModel", "export", "(IIIII)I"⟩ prog_8_method_23_code 6 (some .int) : Cond) ∈ lw_tbl ∧ cd_gw (.code ⟨"CapabilityDomainsModel", "export", "(IIIII)I"⟩ prog_8_method_23_code 6 (some .int)) = true := cd_tw 759 (by decide +kernel) (by decide +kernel)
theorem ml_Mo_103 : (.methodLink "CapabilityDomainsModel" 103 ⟨"CapabilityDomainsModel", "capability", "(IIII)I"⟩ : Cond) ∈ lw_tbl ∧ cd_gw (.methodLink "CapabilityDomainsModel" 103 ⟨"CapabilityDomainsModel", "capability", "(IIII)I"⟩) = true := cd_tw 760 (by decide +kernel) (by decide +kernel)
theorem im_Mo_capability : (.instanceMethod ⟨"CapabilityDomainsModel", "capability", "(IIII)I"⟩ : Cond) ∈ lw_tbl ∧ cd_gw (.instanceMethod ⟨"CapabilityDomainsModel", "capability", "(IIII)I"⟩) = true := cd_tw 762 (by decide +kernel) (by decide +kernel)
theorem cw_Mo_capability : (.code ⟨"CapabilityDomainsModel", "capability", "(IIII)I"⟩ prog_8_method_22_code 5 (some .int) : Cond) ∈ lw_tbl ∧ cd_gw (.code ⟨"CapabilityDomainsModel", "capability", "(IIII)I"⟩ prog_8_method_22_code 5 (some .int)) = true := cd_tw 763 (by decide +kernel) (by decide +kernel)
theorem ml_La_105 : (.methodLink "CapabilityDomainsLaw" 105 ⟨"CapabilityDomainsModel", "narrow", "(IIII)I"⟩ : Cond) ∈ lw_tbl ∧ cd_gw (.methodLink "CapabilityDomainsLaw" 105 ⟨"CapabilityDomainsModel", "narrow", "(IIII)I"⟩) = true := cd_tw 764 (by decide +kernel) (by decide +kernel)
theorem im_Mo_narrow : (.instanceMethod ⟨"CapabilityDomainsModel", "narrow", "(IIII)I"⟩ : Cond) ∈ lw_tbl ∧ cd_gw (.instanceMethod ⟨"CapabilityDomainsModel", "narrow", "(IIII)I"⟩) = true := cd_tw 765 (by decide +kernel) (by decide +kernel)
theorem se_Mo_narrow : (.selects "CapabilityDomainsModel" ⟨"CapabilityDomainsModel", "narrow", "(IIII)I"⟩ ⟨"CapabilityDomainsModel", "narrow", "(IIII)I"⟩ : Cond) ∈ lw_tbl ∧ cd_gw (.selects "CapabilityDomainsModel" ⟨"CapabilityDomainsModel", "narrow", "(IIII)I"⟩ ⟨"CapabilityDomainsModel", "narrow", "(IIII)I"⟩) = true := cd_tw 766 (by decide +kernel) (by decide +kernel)
theorem cw_Mo_narrow : (.code ⟨"CapabilityDomainsModel", "narrow", "(IIII)I"⟩ prog_8_method_24_code 6 (some .int) : Cond) ∈ lw_tbl ∧ cd_gw (.code ⟨"CapabilityDomainsModel", "narrow", "(IIII)I"⟩ prog_8_method_24_code 6 (some .int)) = true := cd_tw 767 (by decide +kernel) (by decide +kernel)
theorem ml_Mo_74 : (.methodLink "CapabilityDomainsModel" 74 ⟨"CapabilityDomainsModel", "dead", "(I)Z"⟩ : Cond) ∈ lw_tbl ∧ cd_gw (.methodLink "CapabilityDomainsModel" 74 ⟨"CapabilityDomainsModel", "dead", "(I)Z"⟩) = true := cd_tw 768 (by decide +kernel) (by decide +kernel)
theorem im_Mo_dead : (.instanceMethod ⟨"CapabilityDomainsModel", "dead", "(I)Z"⟩ : Cond) ∈ lw_tbl ∧ cd_gw (.instanceMethod ⟨"CapabilityDomainsModel", "dead", "(I)Z"⟩) = true := cd_tw 770 (by decide +kernel) (by decide +kernel)
theorem cw_Mo_dead : (.code ⟨"CapabilityDomainsModel", "dead", "(I)Z"⟩ prog_8_method_9_code 4 (some .boolean) : Cond) ∈ lw_tbl ∧ cd_gw (.code ⟨"CapabilityDomainsModel", "dead", "(I)Z"⟩ prog_8_method_9_code 4 (some .boolean)) = true := cd_tw 771 (by decide +kernel) (by decide +kernel)
theorem ml_Mo_70 : (.methodLink "CapabilityDomainsModel" 70 ⟨"CapabilityDomainsModel", "home", "(I)I"⟩ : Cond) ∈ lw_tbl ∧ cd_gw (.methodLink "CapabilityDomainsModel" 70 ⟨"CapabilityDomainsModel", "home", "(I)I"⟩) = true := cd_tw 772 (by decide +kernel) (by decide +kernel)
theorem im_Mo_home : (.instanceMethod ⟨"CapabilityDomainsModel", "home", "(I)I"⟩ : Cond) ∈ lw_tbl ∧ cd_gw (.instanceMethod ⟨"CapabilityDomainsModel", "home", "(I)I"⟩) = true := cd_tw 774 (by decide +kernel) (by decide +kernel)
theorem cw_Mo_home : (.code ⟨"CapabilityDomainsModel", "home", "(I)I"⟩ prog_8_method_8_code 2 (some .int) : Cond) ∈ lw_tbl ∧ cd_gw (.code ⟨"CapabilityDomainsModel", "home", "(I)I"⟩ prog_8_method_8_code 2 (some .int)) = true := cd_tw 775 (by decide +kernel) (by decide +kernel)
theorem ml_La_108 : (.methodLink "CapabilityDomainsLaw" 108 ⟨"CapabilityDomainsModel", "give", "(IIII)I"⟩ : Cond) ∈ lw_tbl ∧ cd_gw (.methodLink "CapabilityDomainsLaw" 108 ⟨"CapabilityDomainsModel", "give", "(IIII)I"⟩) = true := cd_tw 776 (by decide +kernel) (by decide +kernel)
theorem im_Mo_give : (.instanceMethod ⟨"CapabilityDomainsModel", "give", "(IIII)I"⟩ : Cond) ∈ lw_tbl ∧ cd_gw (.instanceMethod ⟨"CapabilityDomainsModel", "give", "(IIII)I"⟩) = true := cd_tw 777 (by decide +kernel) (by decide +kernel)
theorem se_Mo_give : (.selects "CapabilityDomainsModel" ⟨"CapabilityDomainsModel", "give", "(IIII)I"⟩ ⟨"CapabilityDomainsModel", "give", "(IIII)I"⟩ : Cond) ∈ lw_tbl ∧ cd_gw (.selects "CapabilityDomainsModel" ⟨"CapabilityDomainsModel", "give", "(IIII)I"⟩ ⟨"CapabilityDomainsModel", "give", "(IIII)I"⟩) = true := cd_tw 778 (by decide +kernel) (by decide +kernel)
theorem cw_Mo_give : (.code ⟨"CapabilityDomainsModel", "give", "(IIII)I"⟩ prog_8_method_25_code 6 (some .int) : Cond) ∈ lw_tbl ∧ cd_gw (.code ⟨"CapabilityDomainsModel", "give", "(IIII)I"⟩ prog_8_method_25_code 6 (some .int)) = true := cd_tw 779 (by decide +kernel) (by decide +kernel)
theorem ml_La_112 : (.methodLink "CapabilityDomainsLaw" 112 ⟨"CapabilityDomainsModel", "revoke", "(II)I"⟩ : Cond) ∈ lw_tbl ∧ cd_gw (.methodLink "CapabilityDomainsLaw" 112 ⟨"CapabilityDomainsModel", "revoke", "(II)I"⟩) = true := cd_tw 780 (by decide +kernel) (by decide +kernel)
theorem im_Mo_revoke : (.instanceMethod ⟨"CapabilityDomainsModel", "revoke", "(II)I"⟩ : Cond) ∈ lw_tbl ∧ cd_gw (.instanceMethod ⟨"CapabilityDomainsModel", "revoke", "(II)I"⟩) = true := cd_tw 781 (by decide +kernel) (by decide +kernel)
theorem se_Mo_revoke : (.selects "CapabilityDomainsModel" ⟨"CapabilityDomainsModel", "revoke", "(II)I"⟩ ⟨"CapabilityDomainsModel", "revoke", "(II)I"⟩ : Cond) ∈ lw_tbl ∧ cd_gw (.selects "CapabilityDomainsModel" ⟨"CapabilityDomainsModel", "revoke", "(II)I"⟩ ⟨"CapabilityDomainsModel", "revoke", "(II)I"⟩) = true := cd_tw 782 (by decide +kernel) (by decide +kernel)
theorem cw_Mo_revoke : (.code ⟨"CapabilityDomainsModel", "revoke", "(II)I"⟩ prog_8_method_26_code 5 (some .int) : Cond) ∈ lw_tbl ∧ cd_gw (.code ⟨"CapabilityDomainsModel", "revoke", "(II)I"⟩ prog_8_method_26_code 5 (some .int)) = true := cd_tw 783 (by decide +kernel) (by decide +kernel)
theorem ml_Mo_107 : (.methodLink "CapabilityDomainsModel" 107 ⟨"CapabilityDomainsModel", "alive", "()I"⟩ : Cond) ∈ lw_tbl ∧ cd_gw (.methodLink "CapabilityDomainsModel" 107 ⟨"CapabilityDomainsModel", "alive", "()I"⟩) = true := cd_tw 784 (by decide +kernel) (by decide +kernel)
theorem im_Mo_alive : (.instanceMethod ⟨"CapabilityDomainsModel", "alive", "()I"⟩ : Cond) ∈ lw_tbl ∧ cd_gw (.instanceMethod ⟨"CapabilityDomainsModel", "alive", "()I"⟩) = true := cd_tw 786 (by decide +kernel) (by decide +kernel)
theorem cw_Mo_alive : (.code ⟨"CapabilityDomainsModel", "alive", "()I"⟩ prog_8_method_11_code 3 (some .int) : Cond) ∈ lw_tbl ∧ cd_gw (.code ⟨"CapabilityDomainsModel", "alive", "()I"⟩ prog_8_method_11_code 3 (some .int)) = true := cd_tw 787 (by decide +kernel) (by decide +kernel)
theorem ml_La_116 : (.methodLink "CapabilityDomainsLaw" 116 ⟨"CapabilityDomainsModel", "read", "(III)I"⟩ : Cond) ∈ lw_tbl ∧ cd_gw (.methodLink "CapabilityDomainsLaw" 116 ⟨"CapabilityDomainsModel", "read", "(III)I"⟩) = true := cd_tw 788 (by decide +kernel) (by decide +kernel)
theorem im_Mo_read : (.instanceMethod ⟨"CapabilityDomainsModel", "read", "(III)I"⟩ : Cond) ∈ lw_tbl ∧ cd_gw (.instanceMethod ⟨"CapabilityDomainsModel", "read", "(III)I"⟩) = true := cd_tw 789 (by decide +kernel) (by decide +kernel)
theorem se_Mo_read : (.selects "CapabilityDomainsModel" ⟨"CapabilityDomainsModel", "read", "(III)I"⟩ ⟨"CapabilityDomainsModel", "read", "(III)I"⟩ : Cond) ∈ lw_tbl ∧ cd_gw (.selects "CapabilityDomainsModel" ⟨"CapabilityDomainsModel", "read", "(III)I"⟩ ⟨"CapabilityDomainsModel", "read", "(III)I"⟩) = true := cd_tw 790 (by decide +kernel) (by decide +kernel)
theorem cw_Mo_read : (.code ⟨"CapabilityDomainsModel", "read", "(III)I"⟩ prog_8_method_27_code 7 (some .int) : Cond) ∈ lw_tbl ∧ cd_gw (.code ⟨"CapabilityDomainsModel", "read", "(III)I"⟩ prog_8_method_27_code 7 (some .int)) = true := cd_tw 791 (by decide +kernel) (by decide +kernel)
theorem ml_Mo_111 : (.methodLink "CapabilityDomainsModel" 111 ⟨"CapabilityDomainsModel", "useFails", "(III)I"⟩ : Cond) ∈ lw_tbl ∧ cd_gw (.methodLink "CapabilityDomainsModel" 111 ⟨"CapabilityDomainsModel", "useFails", "(III)I"⟩) = true := cd_tw 792 (by decide +kernel) (by decide +kernel)
theorem im_Mo_useFails : (.instanceMethod ⟨"CapabilityDomainsModel", "useFails", "(III)I"⟩ : Cond) ∈ lw_tbl ∧ cd_gw (.instanceMethod ⟨"CapabilityDomainsModel", "useFails", "(III)I"⟩) = true := cd_tw 794 (by decide +kernel) (by decide +kernel)
theorem cw_Mo_useFails : (.code ⟨"CapabilityDomainsModel", "useFails", "(III)I"⟩ prog_8_method_12_code 5 (some .int) : Cond) ∈ lw_tbl ∧ cd_gw (.code ⟨"CapabilityDomainsModel", "useFails", "(III)I"⟩ prog_8_method_12_code 5 (some .int)) = true := cd_tw 795 (by decide +kernel) (by decide +kernel)
theorem ml_Mo_81 : (.methodLink "CapabilityDomainsModel" 81 ⟨"CapabilityDomainsModel", "usedUp", "(I)Z"⟩ : Cond) ∈ lw_tbl ∧ cd_gw (.methodLink "CapabilityDomainsModel" 81 ⟨"CapabilityDomainsModel", "usedUp", "(I)Z"⟩) = true := cd_tw 796 (by decide +kernel) (by decide +kernel)
theorem im_Mo_usedUp : (.instanceMethod ⟨"CapabilityDomainsModel", "usedUp", "(I)Z"⟩ : Cond) ∈ lw_tbl ∧ cd_gw (.instanceMethod ⟨"CapabilityDomainsModel", "usedUp", "(I)Z"⟩) = true := cd_tw 798 (by decide +kernel) (by decide +kernel)
theorem cw_Mo_usedUp : (.code ⟨"CapabilityDomainsModel", "usedUp", "(I)Z"⟩ prog_8_method_10_code 4 (some .boolean) : Cond) ∈ lw_tbl ∧ cd_gw (.code ⟨"CapabilityDomainsModel", "usedUp", "(I)Z"⟩ prog_8_method_10_code 4 (some .boolean)) = true := cd_tw 799 (by decide +kernel) (by decide +kernel)
theorem ml_Mo_115 : (.methodLink "CapabilityDomainsModel" 115 ⟨"CapabilityDomainsModel", "use", "(I)V"⟩ : Cond) ∈ lw_tbl ∧ cd_gw (.methodLink "CapabilityDomainsModel" 115 ⟨"CapabilityDomainsModel", "use", "(I)V"⟩) = true := cd_tw 800 (by decide +kernel) (by decide +kernel)
theorem im_Mo_use : (.instanceMethod ⟨"CapabilityDomainsModel", "use", "(I)V"⟩ : Cond) ∈ lw_tbl ∧ cd_gw (.instanceMethod ⟨"CapabilityDomainsModel", "use", "(I)V"⟩) = true := cd_tw 802 (by decide +kernel) (by decide +kernel)
theorem cw_Mo_use : (.code ⟨"CapabilityDomainsModel", "use", "(I)V"⟩ prog_8_method_13_code 4 none : Cond) ∈ lw_tbl ∧ cd_gw (.code ⟨"CapabilityDomainsModel", "use", "(I)V"⟩ prog_8_method_13_code 4 none) = true := cd_tw 803 (by decide +kernel) (by decide +kernel)
theorem ml_La_119 : (.methodLink "CapabilityDomainsLaw" 119 ⟨"CapabilityDomainsModel", "write", "(IIII)I"⟩ : Cond) ∈ lw_tbl ∧ cd_gw (.methodLink "CapabilityDomainsLaw" 119 ⟨"CapabilityDomainsModel", "write", "(IIII)I"⟩) = true := cd_tw 804 (by decide +kernel) (by decide +kernel)
theorem im_Mo_write : (.instanceMethod ⟨"CapabilityDomainsModel", "write", "(IIII)I"⟩ : Cond) ∈ lw_tbl ∧ cd_gw (.instanceMethod ⟨"CapabilityDomainsModel", "write", "(IIII)I"⟩) = true := cd_tw 805 (by decide +kernel) (by decide +kernel)
theorem se_Mo_write : (.selects "CapabilityDomainsModel" ⟨"CapabilityDomainsModel", "write", "(IIII)I"⟩ ⟨"CapabilityDomainsModel", "write", "(IIII)I"⟩ : Cond) ∈ lw_tbl ∧ cd_gw (.selects "CapabilityDomainsModel" ⟨"CapabilityDomainsModel", "write", "(IIII)I"⟩ ⟨"CapabilityDomainsModel", "write", "(IIII)I"⟩) = true := cd_tw 806 (by decide +kernel) (by decide +kernel)
theorem cw_Mo_write : (.code ⟨"CapabilityDomainsModel", "write", "(IIII)I"⟩ prog_8_method_28_code 7 (some .int) : Cond) ∈ lw_tbl ∧ cd_gw (.code ⟨"CapabilityDomainsModel", "write", "(IIII)I"⟩ prog_8_method_28_code 7 (some .int)) = true := cd_tw 807 (by decide +kernel) (by decide +kernel)
theorem ml_La_122 : (.methodLink "CapabilityDomainsLaw" 122 ⟨"CapabilityDomainsModel", "pass", "(IIII)I"⟩ : Cond) ∈ lw_tbl ∧ cd_gw (.methodLink "CapabilityDomainsLaw" 122 ⟨"CapabilityDomainsModel", "pass", "(IIII)I"⟩) = true := cd_tw 808 (by decide +kernel) (by decide +kernel)
theorem im_Mo_pass : (.instanceMethod ⟨"CapabilityDomainsModel", "pass", "(IIII)I"⟩ : Cond) ∈ lw_tbl ∧ cd_gw (.instanceMethod ⟨"CapabilityDomainsModel", "pass", "(IIII)I"⟩) = true := cd_tw 809 (by decide +kernel) (by decide +kernel)
theorem se_Mo_pass : (.selects "CapabilityDomainsModel" ⟨"CapabilityDomainsModel", "pass", "(IIII)I"⟩ ⟨"CapabilityDomainsModel", "pass", "(IIII)I"⟩ : Cond) ∈ lw_tbl ∧ cd_gw (.selects "CapabilityDomainsModel" ⟨"CapabilityDomainsModel", "pass", "(IIII)I"⟩ ⟨"CapabilityDomainsModel", "pass", "(IIII)I"⟩) = true := cd_tw 810 (by decide +kernel) (by decide +kernel)
theorem cw_Mo_pass : (.code ⟨"CapabilityDomainsModel", "pass", "(IIII)I"⟩ prog_8_method_30_code 12 (some .int) : Cond) ∈ lw_tbl ∧ cd_gw (.code ⟨"CapabilityDomainsModel", "pass", "(IIII)I"⟩ prog_8_method_30_code 12 (some .int)) = true := cd_tw 811 (by decide +kernel) (by decide +kernel)
theorem ml_Mo_119 : (.methodLink "CapabilityDomainsModel" 119 ⟨"CapabilityDomainsModel", "gather", "(II)V"⟩ : Cond) ∈ lw_tbl ∧ cd_gw (.methodLink "CapabilityDomainsModel" 119 ⟨"CapabilityDomainsModel", "gather", "(II)V"⟩) = true := cd_tw 812 (by decide +kernel) (by decide +kernel)
theorem im_Mo_gather : (.instanceMethod ⟨"CapabilityDomainsModel", "gather", "(II)V"⟩ : Cond) ∈ lw_tbl ∧ cd_gw (.instanceMethod ⟨"CapabilityDomainsModel", "gather", "(II)V"⟩) = true := cd_tw 814 (by decide +kernel) (by decide +kernel)
theorem cw_Mo_gather : (.code ⟨"CapabilityDomainsModel", "gather", "(II)V"⟩ prog_8_method_29_code 6 none : Cond) ∈ lw_tbl ∧ cd_gw (.code ⟨"CapabilityDomainsModel", "gather", "(II)V"⟩ prog_8_method_29_code 6 none) = true := cd_tw 815 (by decide +kernel) (by decide +kernel)
theorem ml_La_125 : (.methodLink "CapabilityDomainsLaw" 125 ⟨"CapabilityDomainsModel", "take", "(IIII)I"⟩ : Cond) ∈ lw_tbl ∧ cd_gw (.methodLink "CapabilityDomainsLaw" 125 ⟨"CapabilityDomainsModel", "take", "(IIII)I"⟩) = true := cd_tw 816 (by decide +kernel) (by decide +kernel)
theorem im_Mo_take : (.instanceMethod ⟨"CapabilityDomainsModel", "take", "(IIII)I"⟩ : Cond) ∈ lw_tbl ∧ cd_gw (.instanceMethod ⟨"CapabilityDomainsModel", "take", "(IIII)I"⟩) = true := cd_tw 817 (by decide +kernel) (by decide +kernel)
theorem se_Mo_take : (.selects "CapabilityDomainsModel" ⟨"CapabilityDomainsModel", "take", "(IIII)I"⟩ ⟨"CapabilityDomainsModel", "take", "(IIII)I"⟩ : Cond) ∈ lw_tbl ∧ cd_gw (.selects "CapabilityDomainsModel" ⟨"CapabilityDomainsModel", "take", "(IIII)I"⟩ ⟨"CapabilityDomainsModel", "take", "(IIII)I"⟩) = true := cd_tw 818 (by decide +kernel) (by decide +kernel)
theorem cw_Mo_take : (.code ⟨"CapabilityDomainsModel", "take", "(IIII)I"⟩ prog_8_method_31_code 9 (some .int) : Cond) ∈ lw_tbl ∧ cd_gw (.code ⟨"CapabilityDomainsModel", "take", "(IIII)I"⟩ prog_8_method_31_code 9 (some .int)) = true := cd_tw 819 (by decide +kernel) (by decide +kernel)
theorem ml_La_128 : (.methodLink "CapabilityDomainsLaw" 128 ⟨"CapabilityDomainsModel", "free", "(II)I"⟩ : Cond) ∈ lw_tbl ∧ cd_gw (.methodLink "CapabilityDomainsLaw" 128 ⟨"CapabilityDomainsModel", "free", "(II)I"⟩) = true := cd_tw 820 (by decide +kernel) (by decide +kernel)
theorem im_Mo_free : (.instanceMethod ⟨"CapabilityDomainsModel", "free", "(II)I"⟩ : Cond) ∈ lw_tbl ∧ cd_gw (.instanceMethod ⟨"CapabilityDomainsModel", "free", "(II)I"⟩) = true := cd_tw 821 (by decide +kernel) (by decide +kernel)
theorem se_Mo_free : (.selects "CapabilityDomainsModel" ⟨"CapabilityDomainsModel", "free", "(II)I"⟩ ⟨"CapabilityDomainsModel", "free", "(II)I"⟩ : Cond) ∈ lw_tbl ∧ cd_gw (.selects "CapabilityDomainsModel" ⟨"CapabilityDomainsModel", "free", "(II)I"⟩ ⟨"CapabilityDomainsModel", "free", "(II)I"⟩) = true := cd_tw 822 (by decide +kernel) (by decide +kernel)
theorem cw_Mo_free : (.code ⟨"CapabilityDomainsModel", "free", "(II)I"⟩ prog_8_method_32_code 8 (some .int) : Cond) ∈ lw_tbl ∧ cd_gw (.code ⟨"CapabilityDomainsModel", "free", "(II)I"⟩ prog_8_method_32_code 8 (some .int)) = true := cd_tw 823 (by decide +kernel) (by decide +kernel)
theorem ml_La_131 : (.methodLink "CapabilityDomainsLaw" 131 ⟨"CapabilityDomainsModel", "end", "(I)I"⟩ : Cond) ∈ lw_tbl ∧ cd_gw (.methodLink "CapabilityDomainsLaw" 131 ⟨"CapabilityDomainsModel", "end", "(I)I"⟩) = true := cd_tw 824 (by decide +kernel) (by decide +kernel)
theorem im_Mo_end : (.instanceMethod ⟨"CapabilityDomainsModel", "end", "(I)I"⟩ : Cond) ∈ lw_tbl ∧ cd_gw (.instanceMethod ⟨"CapabilityDomainsModel", "end", "(I)I"⟩) = true := cd_tw 825 (by decide +kernel) (by decide +kernel)
theorem se_Mo_end : (.selects "CapabilityDomainsModel" ⟨"CapabilityDomainsModel", "end", "(I)I"⟩ ⟨"CapabilityDomainsModel", "end", "(I)I"⟩ : Cond) ∈ lw_tbl ∧ cd_gw (.selects "CapabilityDomainsModel" ⟨"CapabilityDomainsModel", "end", "(I)I"⟩ ⟨"CapabilityDomainsModel", "end", "(I)I"⟩) = true := cd_tw 826 (by decide +kernel) (by decide +kernel)
theorem cw_Mo_end : (.code ⟨"CapabilityDomainsModel", "end", "(I)I"⟩ prog_8_method_33_code 4 (some .int) : Cond) ∈ lw_tbl ∧ cd_gw (.code ⟨"CapabilityDomainsModel", "end", "(I)I"⟩ prog_8_method_33_code 4 (some .int)) = true := cd_tw 827 (by decide +kernel) (by decide +kernel)
theorem ml_La_135 : (.methodLink "CapabilityDomainsLaw" 135 ⟨"CapabilityDomainsModel", "holds", "(III)I"⟩ : Cond) ∈ lw_tbl ∧ cd_gw (.methodLink "CapabilityDomainsLaw" 135 ⟨"CapabilityDomainsModel", "holds", "(III)I"⟩) = true := cd_tw 828 (by decide +kernel) (by decide +kernel)
theorem im_Mo_holds : (.instanceMethod ⟨"CapabilityDomainsModel", "holds", "(III)I"⟩ : Cond) ∈ lw_tbl ∧ cd_gw (.instanceMethod ⟨"CapabilityDomainsModel", "holds", "(III)I"⟩) = true := cd_tw 829 (by decide +kernel) (by decide +kernel)
theorem se_Mo_holds : (.selects "CapabilityDomainsModel" ⟨"CapabilityDomainsModel", "holds", "(III)I"⟩ ⟨"CapabilityDomainsModel", "holds", "(III)I"⟩ : Cond) ∈ lw_tbl ∧ cd_gw (.selects "CapabilityDomainsModel" ⟨"CapabilityDomainsModel", "holds", "(III)I"⟩ ⟨"CapabilityDomainsModel", "holds", "(III)I"⟩) = true := cd_tw 830 (by decide +kernel) (by decide +kernel)
theorem cw_Mo_holds : (.code ⟨"CapabilityDomainsModel", "holds", "(III)I"⟩ prog_8_method_34_code 5 (some .int) : Cond) ∈ lw_tbl ∧ cd_gw (.code ⟨"CapabilityDomainsModel", "holds", "(III)I"⟩ prog_8_method_34_code 5 (some .int)) = true := cd_tw 831 (by decide +kernel) (by decide +kernel)
theorem ml_La_139 : (.methodLink "CapabilityDomainsLaw" 139 ⟨"CapabilityDomainsModel", "linked", "(III)I"⟩ : Cond) ∈ lw_tbl ∧ cd_gw (.methodLink "CapabilityDomainsLaw" 139 ⟨"CapabilityDomainsModel", "linked", "(III)I"⟩) = true := cd_tw 832 (by decide +kernel) (by decide +kernel)
theorem im_Mo_linked : (.instanceMethod ⟨"CapabilityDomainsModel", "linked", "(III)I"⟩ : Cond) ∈ lw_tbl ∧ cd_gw (.instanceMethod ⟨"CapabilityDomainsModel", "linked", "(III)I"⟩) = true := cd_tw 833 (by decide +kernel) (by decide +kernel)
theorem se_Mo_linked : (.selects "CapabilityDomainsModel" ⟨"CapabilityDomainsModel", "linked", "(III)I"⟩ ⟨"CapabilityDomainsModel", "linked", "(III)I"⟩ : Cond) ∈ lw_tbl ∧ cd_gw (.selects "CapabilityDomainsModel" ⟨"CapabilityDomainsModel", "linked", "(III)I"⟩ ⟨"CapabilityDomainsModel", "linked", "(III)I"⟩) = true := cd_tw 834 (by decide +kernel) (by decide +kernel)
theorem cw_Mo_linked : (.code ⟨"CapabilityDomainsModel", "linked", "(III)I"⟩ prog_8_method_35_code 5 (some .int) : Cond) ∈ lw_tbl ∧ cd_gw (.code ⟨"CapabilityDomainsModel", "linked", "(III)I"⟩ prog_8_method_35_code 5 (some .int)) = true := cd_tw 835 (by decide +kernel) (by decide +kernel)
theorem ml_La_143 : (.methodLink "CapabilityDomainsLaw" 143 ⟨"CapabilityDomainsModel", "slot", "(II)I"⟩ : Cond) ∈ lw_tbl ∧ cd_gw (.methodLink "CapabilityDomainsLaw" 143 ⟨"CapabilityDomainsModel", "slot", "(II)I"⟩) = true := cd_tw 836 (by decide +kernel) (by decide +kernel)
theorem im_Mo_slot : (.instanceMethod ⟨"CapabilityDomainsModel", "slot", "(II)I"⟩ : Cond) ∈ lw_tbl ∧ cd_gw (.instanceMethod ⟨"CapabilityDomainsModel", "slot", "(II)I"⟩) = true := cd_tw 837 (by decide +kernel) (by decide +kernel)
theorem se_Mo_slot : (.selects "CapabilityDomainsModel" ⟨"CapabilityDomainsModel", "slot", "(II)I"⟩ ⟨"CapabilityDomainsModel", "slot", "(II)I"⟩ : Cond) ∈ lw_tbl ∧ cd_gw (.selects "CapabilityDomainsModel" ⟨"CapabilityDomainsModel", "slot", "(II)I"⟩ ⟨"CapabilityDomainsModel", "slot", "(II)I"⟩) = true := cd_tw 838 (by decide +kernel) (by decide +kernel)
theorem cw_Mo_slot : (.code ⟨"CapabilityDomainsModel", "slot", "(II)I"⟩ prog_8_method_36_code 4 (some .int) : Cond) ∈ lw_tbl ∧ cd_gw (.code ⟨"CapabilityDomainsModel", "slot", "(II)I"⟩ prog_8_method_36_code 4 (some .int)) = true := cd_tw 839 (by decide +kernel) (by decide +kernel)
theorem ml_La_147 : (.methodLink "CapabilityDomainsLaw" 147 ⟨"CapabilityDomainsModel", "count", "(I)I"⟩ : Cond) ∈ lw_tbl ∧ cd_gw (.methodLink "CapabilityDomainsLaw" 147 ⟨"CapabilityDomainsModel", "count", "(I)I"⟩) = true := cd_tw 840 (by decide +kernel) (by decide +kernel)
theorem im_Mo_count : (.instanceMethod ⟨"CapabilityDomainsModel", "count", "(I)I"⟩ : Cond) ∈ lw_tbl ∧ cd_gw (.instanceMethod ⟨"CapabilityDomainsModel", "count", "(I)I"⟩) = true := cd_tw 841 (by decide +kernel) (by decide +kernel)
theorem se_Mo_count : (.selects "CapabilityDomainsModel" ⟨"CapabilityDomainsModel", "count", "(I)I"⟩ ⟨"CapabilityDomainsModel", "count", "(I)I"⟩ : Cond) ∈ lw_tbl ∧ cd_gw (.selects "CapabilityDomainsModel" ⟨"CapabilityDomainsModel", "count", "(I)I"⟩ ⟨"CapabilityDomainsModel", "count", "(I)I"⟩) = true := cd_tw 842 (by decide +kernel) (by decide +kernel)
theorem cw_Mo_count : (.code ⟨"CapabilityDomainsModel", "count", "(I)I"⟩ prog_8_method_37_code 4 (some .int) : Cond) ∈ lw_tbl ∧ cd_gw (.code ⟨"CapabilityDomainsModel", "count", "(I)I"⟩ prog_8_method_37_code 4 (some .int)) = true := cd_tw 843 (by decide +kernel) (by decide +kernel)
theorem se_Cd_isField : (.selects "CapabilityDomains" ⟨"CapabilityDomains", "isField", "(III)Z"⟩ ⟨"CapabilityDomains", "isField", "(III)Z"⟩ : Cond) ∈ lw_tbl ∧ cd_gw (.selects "CapabilityDomains" ⟨"CapabilityDomains", "isField", "(III)Z"⟩ ⟨"CapabilityDomains", "isField", "(III)Z"⟩) = true := cd_tw 0 (by decide +kernel) (by decide +kernel)
theorem se_Cd_isDomain : (.selects "CapabilityDomains" ⟨"CapabilityDomains", "isDomain", "(I)Z"⟩ ⟨"CapabilityDomains", "isDomain", "(I)Z"⟩ : Cond) ∈ lw_tbl ∧ cd_gw (.selects "CapabilityDomains" ⟨"CapabilityDomains", "isDomain", "(I)Z"⟩ ⟨"CapabilityDomains", "isDomain", "(I)Z"⟩) = true := cd_tw 1 (by decide +kernel) (by decide +kernel)
theorem se_Cd_livingDomains : (.selects "CapabilityDomains" ⟨"CapabilityDomains", "livingDomains", "()I"⟩ ⟨"CapabilityDomains", "livingDomains", "()I"⟩ : Cond) ∈ lw_tbl ∧ cd_gw (.selects "CapabilityDomains" ⟨"CapabilityDomains", "livingDomains", "()I"⟩ ⟨"CapabilityDomains", "livingDomains", "()I"⟩) = true := cd_tw 2 (by decide +kernel) (by decide +kernel)
theorem se_Cd_livingCapabilities : (.selects "CapabilityDomains" ⟨"CapabilityDomains", "livingCapabilities", "()I"⟩ ⟨"CapabilityDomains", "livingCapabilities", "()I"⟩ : Cond) ∈ lw_tbl ∧ cd_gw (.selects "CapabilityDomains" ⟨"CapabilityDomains", "livingCapabilities", "()I"⟩ ⟨"CapabilityDomains", "livingCapabilities", "()I"⟩) = true := cd_tw 3 (by decide +kernel) (by decide +kernel)
theorem se_Cd_objectsOf : (.selects "CapabilityDomains" ⟨"CapabilityDomains", "objectsOf", "(I)I"⟩ ⟨"CapabilityDomains", "objectsOf", "(I)I"⟩ : Cond) ∈ lw_tbl ∧ cd_gw (.selects "CapabilityDomains" ⟨"CapabilityDomains", "objectsOf", "(I)I"⟩ ⟨"CapabilityDomains", "objectsOf", "(I)I"⟩) = true := cd_tw 4 (by decide +kernel) (by decide +kernel)
theorem se_Cd_livingDomain : (.selects "CapabilityDomains" ⟨"CapabilityDomains", "livingDomain", "(I)LCapabilityDomains$Domain;"⟩ ⟨"CapabilityDomains", "livingDomain", "(I)LCapabilityDomains$Domain;"⟩ : Cond) ∈ lw_tbl ∧ cd_gw (.selects "CapabilityDomains" ⟨"CapabilityDomains", "livingDomain", "(I)LCapabilityDomains$Domain;"⟩ ⟨"CapabilityDomains", "livingDomain", "(I)LCapabilityDomains$Domain;"⟩) = true := cd_tw 6 (by decide +kernel) (by decide +kernel)
theorem se_Cd_requireSlot : (.selects "CapabilityDomains" ⟨"CapabilityDomains", "requireSlot", "(II)V"⟩ ⟨"CapabilityDomains", "requireSlot", "(II)V"⟩ : Cond) ∈ lw_tbl ∧ cd_gw (.selects "CapabilityDomains" ⟨"CapabilityDomains", "requireSlot", "(II)V"⟩ ⟨"CapabilityDomains", "requireSlot", "(II)V"⟩) = true := cd_tw 7 (by decide +kernel) (by decide +kernel)
theorem se_Cd_requireCapabilityLeft : (.selects "CapabilityDomains" ⟨"CapabilityDomains", "requireCapabilityLeft", "()V"⟩ ⟨"CapabilityDomains", "requireCapabilityLeft", "()V"⟩ : Cond) ∈ lw_tbl ∧ cd_gw (.selects "CapabilityDomains" ⟨"CapabilityDomains", "requireCapabilityLeft", "()V"⟩ ⟨"CapabilityDomains", "requireCapabilityLeft", "()V"⟩) = true := cd_tw 8 (by decide +kernel) (by decide +kernel)
theorem se_Cd_putNew : (.selects "CapabilityDomains" ⟨"CapabilityDomains", "putNew", "(LCapabilityDomains$Capability;LCapabilityDomains$Domain;I)I"⟩ ⟨"CapabilityDomains", "putNew", "(LCapabilityDomains$Capability;LCapabilityDomains$Domain;I)I"⟩ : Cond) ∈ lw_tbl ∧ cd_gw (.selects "CapabilityDomains" ⟨"CapabilityDomains", "putNew", "(LCapabilityDomains$Capability;LCapabilityDomains$Domain;I)I"⟩ ⟨"CapabilityDomains", "putNew", "(LCapabilityDomains$Capability;LCapabilityDomains$Domain;I)I"⟩) = true := cd_tw 9 (by decide +kernel) (by decide +kernel)
theorem se_Cd_spreadDeath : (.selects "CapabilityDomains" ⟨"CapabilityDomains", "spreadDeath", "()I"⟩ ⟨"CapabilityDomains", "spreadDeath", "()I"⟩ : Cond) ∈ lw_tbl ∧ cd_gw (.selects "CapabilityDomains" ⟨"CapabilityDomains", "spreadDeath", "()I"⟩ ⟨"CapabilityDomains", "spreadDeath", "()I"⟩) = true := cd_tw 10 (by decide +kernel) (by decide +kernel)
theorem se_Cd_usable : (.selects "CapabilityDomains" ⟨"CapabilityDomains", "usable", "(III)LCapabilityDomains$Capability;"⟩ ⟨"CapabilityDomains", "usable", "(III)LCapabilityDomains$Capability;"⟩ : Cond) ∈ lw_tbl ∧ cd_gw (.selects "CapabilityDomains" ⟨"CapabilityDomains", "usable", "(III)LCapabilityDomains$Capability;"⟩ ⟨"CapabilityDomains", "usable", "(III)LCapabilityDomains$Capability;"⟩) = true := cd_tw 11 (by decide +kernel) (by decide +kernel)
theorem se_Re_comeTo : (.selects "CapabilityDomains$Reach" ⟨"CapabilityDomains$Reach", "comeTo", "(II)V"⟩ ⟨"CapabilityDomains$Reach", "comeTo", "(II)V"⟩ : Cond) ∈ lw_tbl ∧ cd_gw (.selects "CapabilityDomains$Reach" ⟨"CapabilityDomains$Reach", "comeTo", "(II)V"⟩ ⟨"CapabilityDomains$Reach", "comeTo", "(II)V"⟩) = true := cd_tw 12 (by decide +kernel) (by decide +kernel)
theorem se_Re_copyFields : (.selects "CapabilityDomains$Reach" ⟨"CapabilityDomains$Reach", "copyFields", "(LCapabilityDomains$DomainObject;LCapabilityDomains$DomainObject;)V"⟩ ⟨"CapabilityDomains$Reach", "copyFields", "(LCapabilityDomains$DomainObject;LCapabilityDomains$DomainObject;)V"⟩ : Cond) ∈ lw_tbl ∧ cd_gw (.selects "CapabilityDomains$Reach" ⟨"CapabilityDomains$Reach", "copyFields", "(LCapabilityDomains$DomainObject;LCapabilityDomains$DomainObject;)V"⟩ ⟨"CapabilityDomains$Reach", "copyFields", "(LCapabilityDomains$DomainObject;LCapabilityDomains$DomainObject;)V"⟩) = true := cd_tw 13 (by decide +kernel) (by decide +kernel)
theorem se_Mo_fail : (.selects "CapabilityDomainsModel" ⟨"CapabilityDomainsModel", "fail", "(I)I"⟩ ⟨"CapabilityDomainsModel", "fail", "(I)I"⟩ : Cond) ∈ lw_tbl ∧ cd_gw (.selects "CapabilityDomainsModel" ⟨"CapabilityDomainsModel", "fail", "(I)I"⟩ ⟨"CapabilityDomainsModel", "fail", "(I)I"⟩) = true := cd_tw 14 (by decide +kernel) (by decide +kernel)
theorem se_Mo_fine : (.selects "CapabilityDomainsModel" ⟨"CapabilityDomainsModel", "fine", "(I)I"⟩ ⟨"CapabilityDomainsModel", "fine", "(I)I"⟩ : Cond) ∈ lw_tbl ∧ cd_gw (.selects "CapabilityDomainsModel" ⟨"CapabilityDomainsModel", "fine", "(I)I"⟩ ⟨"CapabilityDomainsModel", "fine", "(I)I"⟩) = true := cd_tw 15 (by decide +kernel) (by decide +kernel)
theorem se_Mo_noDomain : (.selects "CapabilityDomainsModel" ⟨"CapabilityDomainsModel", "noDomain", "(I)Z"⟩ ⟨"CapabilityDomainsModel", "noDomain", "(I)Z"⟩ : Cond) ∈ lw_tbl ∧ cd_gw (.selects "CapabilityDomainsModel" ⟨"CapabilityDomainsModel", "noDomain", "(I)Z"⟩ ⟨"CapabilityDomainsModel", "noDomain", "(I)Z"⟩) = true := cd_tw 16 (by decide +kernel) (by decide +kernel)
theorem se_Mo_objects : (.selects "CapabilityDomainsModel" ⟨"CapabilityDomainsModel", "objects", "(I)I"⟩ ⟨"CapabilityDomainsModel", "objects", "(I)I"⟩ : Cond) ∈ lw_tbl ∧ cd_gw (.selects "CapabilityDomainsModel" ⟨"CapabilityDomainsModel", "objects", "(I)I"⟩ ⟨"CapabilityDomainsModel", "objects", "(I)I"⟩) = true := cd_tw 17 (by decide +kernel) (by decide +kernel)
theorem se_Mo_newObject : (.selects "CapabilityDomainsModel" ⟨"CapabilityDomainsModel", "newObject", "(I)I"⟩ ⟨"CapabilityDomainsModel", "newObject", "(I)I"⟩ : Cond) ∈ lw_tbl ∧ cd_gw (.selects "CapabilityDomainsModel" ⟨"CapabilityDomainsModel", "newObject", "(I)I"⟩ ⟨"CapabilityDomainsModel", "newObject", "(I)I"⟩) = true := cd_tw 18 (by decide +kernel) (by decide +kernel)
theorem se_Mo_put : (.selects "CapabilityDomainsModel" ⟨"CapabilityDomainsModel", "put", "(III)V"⟩ ⟨"CapabilityDomainsModel", "put", "(III)V"⟩ : Cond) ∈ lw_tbl ∧ cd_gw (.selects "CapabilityDomainsModel" ⟨"CapabilityDomainsModel", "put", "(III)V"⟩ ⟨"CapabilityDomainsModel", "put", "(III)V"⟩) = true := cd_tw 19 (by decide +kernel) (by decide +kernel)
theorem se_Mo_none : (.selects "CapabilityDomainsModel" ⟨"CapabilityDomainsModel", "none", "(II)Z"⟩ ⟨"CapabilityDomainsModel", "none", "(II)Z"⟩ : Cond) ∈ lw_tbl ∧ cd_gw (.selects "CapabilityDomainsModel" ⟨"CapabilityDomainsModel", "none", "(II)Z"⟩ ⟨"CapabilityDomainsModel", "none", "(II)Z"⟩) = true := cd_tw 20 (by decide +kernel) (by decide +kernel)
theorem se_Mo_out : (.selects "CapabilityDomainsModel" ⟨"CapabilityDomainsModel", "out", "(II)Z"⟩ ⟨"CapabilityDomainsModel", "out", "(II)Z"⟩ : Cond) ∈ lw_tbl ∧ cd_gw (.selects "CapabilityDomainsModel" ⟨"CapabilityDomainsModel", "out", "(II)Z"⟩ ⟨"CapabilityDomainsModel", "out", "(II)Z"⟩) = true := cd_tw 21 (by decide +kernel) (by decide +kernel)
theorem se_Mo_capability : (.selects "CapabilityDomainsModel" ⟨"CapabilityDomainsModel", "capability", "(IIII)I"⟩ ⟨"CapabilityDomainsModel", "capability", "(IIII)I"⟩ : Cond) ∈ lw_tbl ∧ cd_gw (.selects "CapabilityDomainsModel" ⟨"CapabilityDomainsModel", "capability", "(IIII)I"⟩ ⟨"CapabilityDomainsModel", "capability", "(IIII)I"⟩) = true := cd_tw 22 (by decide +kernel) (by decide +kernel)
theorem se_Mo_dead : (.selects "CapabilityDomainsModel" ⟨"CapabilityDomainsModel", "dead", "(I)Z"⟩ ⟨"CapabilityDomainsModel", "dead", "(I)Z"⟩ : Cond) ∈ lw_tbl ∧ cd_gw (.selects "CapabilityDomainsModel" ⟨"CapabilityDomainsModel", "dead", "(I)Z"⟩ ⟨"CapabilityDomainsModel", "dead", "(I)Z"⟩) = true := cd_tw 23 (by decide +kernel) (by decide +kernel)
theorem se_Mo_home : (.selects "CapabilityDomainsModel" ⟨"CapabilityDomainsModel", "home", "(I)I"⟩ ⟨"CapabilityDomainsModel", "home", "(I)I"⟩ : Cond) ∈ lw_tbl ∧ cd_gw (.selects "CapabilityDomainsModel" ⟨"CapabilityDomainsModel", "home", "(I)I"⟩ ⟨"CapabilityDomainsModel", "home", "(I)I"⟩) = true := cd_tw 24 (by decide +kernel) (by decide +kernel)
theorem se_Mo_alive : (.selects "CapabilityDomainsModel" ⟨"CapabilityDomainsModel", "alive", "()I"⟩ ⟨"CapabilityDomainsModel", "alive", "()I"⟩ : Cond) ∈ lw_tbl ∧ cd_gw (.selects "CapabilityDomainsModel" ⟨"CapabilityDomainsModel", "alive", "()I"⟩ ⟨"CapabilityDomainsModel", "alive", "()I"⟩) = true := cd_tw 25 (by decide +kernel) (by decide +kernel)
theorem se_Mo_useFails : (.selects "CapabilityDomainsModel" ⟨"CapabilityDomainsModel", "useFails", "(III)I"⟩ ⟨"CapabilityDomainsModel", "useFails", "(III)I"⟩ : Cond) ∈ lw_tbl ∧ cd_gw (.selects "CapabilityDomainsModel" ⟨"CapabilityDomainsModel", "useFails", "(III)I"⟩ ⟨"CapabilityDomainsModel", "useFails", "(III)I"⟩) = true := cd_tw 26 (by decide +kernel) (by decide +kernel)
theorem se_Mo_usedUp : (.selects "CapabilityDomainsModel" ⟨"CapabilityDomainsModel", "usedUp", "(I)Z"⟩ ⟨"CapabilityDomainsModel", "usedUp", "(I)Z"⟩ : Cond) ∈ lw_tbl ∧ cd_gw (.selects "CapabilityDomainsModel" ⟨"CapabilityDomainsModel", "usedUp", "(I)Z"⟩ ⟨"CapabilityDomainsModel", "usedUp", "(I)Z"⟩) = true := cd_tw 27 (by decide +kernel) (by decide +kernel)
theorem se_Mo_use : (.selects "CapabilityDomainsModel" ⟨"CapabilityDomainsModel", "use", "(I)V"⟩ ⟨"CapabilityDomainsModel", "use", "(I)V"⟩ : Cond) ∈ lw_tbl ∧ cd_gw (.selects "CapabilityDomainsModel" ⟨"CapabilityDomainsModel", "use", "(I)V"⟩ ⟨"CapabilityDomainsModel", "use", "(I)V"⟩) = true := cd_tw 28 (by decide +kernel) (by decide +kernel)
theorem se_Mo_gather : (.selects "CapabilityDomainsModel" ⟨"CapabilityDomainsModel", "gather", "(II)V"⟩ ⟨"CapabilityDomainsModel", "gather", "(II)V"⟩ : Cond) ∈ lw_tbl ∧ cd_gw (.selects "CapabilityDomainsModel" ⟨"CapabilityDomainsModel", "gather", "(II)V"⟩ ⟨"CapabilityDomainsModel", "gather", "(II)V"⟩) = true := cd_tw 29 (by decide +kernel) (by decide +kernel)
end
section
/-! ===== THE WORLD AS FUNCTIONS: what the heap holds of our objects and arrays, by tag, address and place =====
kind of an address: 0 none of ours; 2 * ci + 2 an object of class ci of cd_cls; 2 * i + 1 an array of type i of cd_ty.
tag of a field: 32 * ci + k (slot k of class ci); tag of an array's places: 1000 + i -/
abbrev cd_Wd : Type := (Nat → Nat) × (Nat → Nat) × (Nat → Nat → Nat → Int32) × (Nat → Nat → Nat → Option Nat) × (Nat → Nat → Int64)
def cd_kd (w : cd_Wd) (a : Nat) : Nat := w.1 a
def cd_ln (w : cd_Wd) (a : Nat) : Nat := w.2.1 a
def cd_I (w : cd_Wd) (t a j : Nat) : Int32 := w.2.2.1 t a j
def cd_O (w : cd_Wd) (t a j : Nat) : Option Nat := w.2.2.2.1 t a j
def cd_J (w : cd_Wd) (a j : Nat) : Int64 := w.2.2.2.2 a j
def cd_wI (w : cd_Wd) (t a j : Nat) (v : Int32) : cd_Wd := (w.1, w.2.1, fun t' a' j' => if t' = t ∧ a' = a ∧ j' = j then v else w.2.2.1 t' a' j', w.2.2.2.1, w.2.2.2.2)
def cd_wO (w : cd_Wd) (t a j : Nat) (v : Option Nat) : cd_Wd := (w.1, w.2.1, w.2.2.1, fun t' a' j' => if t' = t ∧ a' = a ∧ j' = j then v else w.2.2.2.1 t' a' j', w.2.2.2.2)
def cd_wJ (w : cd_Wd) (a j : Nat) (v : Int64) : cd_Wd := (w.1, w.2.1, w.2.2.1, w.2.2.2.1, fun a' j' => if a' = a ∧ j' = j then v else w.2.2.2.2 a' j')
def cd_wN (w : cd_Wd) (q k n : Nat) : cd_Wd := (fun a => if a = q then k else w.1 a, fun a => if a = q then n else w.2.1 a, fun t a j => if a = q then 0 else w.2.2.1 t a j, fun t a j => if a = q then none else w.2.2.2.1 t a j, fun a j => if a = q then 0 else w.2.2.2.2 a j)
section
variable (w : cd_Wd) (t a j : Nat)
theorem kd_wI (v : Int32) (x : Nat) : cd_kd (cd_wI w t a j v) x = cd_kd w x := rfl
theorem kd_wO (v : Option Nat) (x : Nat) : cd_kd (cd_wO w t a j v) x = cd_kd w x := rfl
theorem kd_wJ (v : Int64) (x : Nat) : cd_kd (cd_wJ w a j v) x = cd_kd w x := rfl
theorem kd_wN (k n x : Nat) : cd_kd (cd_wN w a k n) x = if x = a then k else cd_kd w x := rfl
theorem ln_wI (v : Int32) (x : Nat) : cd_ln (cd_wI w t a j v) x = cd_ln w x := rfl
theorem ln_wO (v : Option Nat) (x : Nat) : cd_ln (cd_wO w t a j v) x = cd_ln w x := rfl
theorem ln_wJ (v : Int64) (x : Nat) : cd_ln (cd_wJ w a j v) x = cd_ln w x := rfl
theorem ln_wN (k n x : Nat) : cd_ln (cd_wN w a k n) x = if x = a then n else cd_ln w x := rfl
theorem I_wI (v : Int32) (t' a' j' : Nat) : cd_I (cd_wI w t a j v) t' a' j' = if t' = t ∧ a' = a ∧ j' = j then v else cd_I w t' a' j' := rfl
theorem I_wO (v : Option Nat) (t' a' j' : Nat) : cd_I (cd_wO w t a j v) t' a' j' = cd_I w t' a' j' := rfl
theorem I_wJ (v : Int64) (t' a' j' : Nat) : cd_I (cd_wJ w a j v) t' a' j' = cd_I w t' a' j' := rfl
theorem I_wN (k n t' a' j' : Nat) : cd_I (cd_wN w a k n) t' a' j' = if a' = a then 0 else cd_I w t' a' j' := rfl
theorem O_wI (v : Int32) (t' a' j' : Nat) : cd_O (cd_wI w t a j v) t' a' j' = cd_O w t' a' j' := rfl
theorem O_wO (v : Option Nat) (t' a' j' : Nat) : cd_O (cd_wO w t a j v) t' a' j' = if t' = t ∧ a' = a ∧ j' = j then v else cd_O w t' a' j' := rfl
theorem O_wJ (v : Int64) (t' a' j' : Nat) : cd_O (cd_wJ w a j v) t' a' j' = cd_O w t' a' j' := rfl
theorem O_wN (k n t' a' j' : Nat) : cd_O (cd_wN w a k n) t' a' j' = if a' = a then none else cd_O w t' a' j' := rfl
theorem J_wI (v : Int32) (a' j' : Nat) : cd_J (cd_wI w t a j v) a' j' = cd_J w a' j' := rfl
theorem J_wO (v : Option Nat) (a' j' : Nat) : cd_J (cd_wO w t a j v) a' j' = cd_J w a' j' := rfl
theorem J_wJ (v : Int64) (a' j' : Nat) : cd_J (cd_wJ w a j v) a' j' = if a' = a ∧ j' = j then v else cd_J w a' j' := rfl
theorem J_wN (k n a' j' : Nat) : cd_J (cd_wN w a k n) a' j' = if a' = a then 0 else cd_J w a' j' := rfl
end
/-- what a field, a place holds -/
def cd_fv (w : cd_Wd) (ci k a : Nat) : Value := if cd_rf ci k then va_rf (cd_O w (32 * ci + k) a 0) else .int (cd_I w (32 * ci + k) a 0)
def cd_av (w : cd_Wd) (i a j : Nat) : Value := match cd_tk i with
  | 0 => .int (cd_I w (1000 + i) a j)
  | 1 => va_rf (cd_O w (1000 + i) a j)
  | _ => .long (cd_J w a j)
/-- what is fixed for a whole run: the classes' numbers and slots, the array classes' numbers, the heap at its start -/
abbrev cd_Gl : Type := va_G × (Nat → ClassId) × Heap
def cd_At (G : cd_Gl) (w : cd_Wd) (H : Heap) (a : Nat) : Prop :=
  (∀ ci, cd_kd w a = 2 * ci + 2 → ∃ q : vw_C, cd_cls[ci]? = some q ∧ t_OB a (G.1.1 ci) q.2.2 (G.1.2 ci) H (fun k => cd_fv w ci k a)) ∧
  (∀ i, cd_kd w a = 2 * i + 1 → H[a]? = some (arrV (G.2.1 i) (cd_ln w a) (fun j => cd_av w i a j)))
def cd_Hp (G : cd_Gl) (w : cd_Wd) (H : Heap) : Prop :=
  G.2.2.size ≤ H.size ∧ (∀ q, q < G.2.2.size → H[q]? = G.2.2[q]?) ∧ (∀ (a : Nat) (c : Cell), G.2.2.size ≤ a → H[a]? = some c → c.vm.isStatics = false) ∧
  ∀ a, cd_kd w a ≠ 0 → G.2.2.size ≤ a ∧ a < H.size ∧ cd_At G w H a
theorem cd_Hp.lt {G : cd_Gl} {w : cd_Wd} {H : Heap} (h : cd_Hp G w H) {a : Nat} (ha : cd_kd w a ≠ 0) : a < H.size := (h.2.2.2 a ha).2.1
theorem cd_Hp.ge {G : cd_Gl} {w : cd_Wd} {H : Heap} (h : cd_Hp G w H) {a : Nat} (ha : cd_kd w a ≠ 0) : G.2.2.size ≤ a := (h.2.2.2 a ha).1
theorem cd_Hp.obj {G : cd_Gl} {w : cd_Wd} {H : Heap} (h : cd_Hp G w H) {a ci : Nat} (ha : cd_kd w a = 2 * ci + 2) {q : vw_C} (hq : cd_cls[ci]? = some q) : t_OB a (G.1.1 ci) q.2.2 (G.1.2 ci) H (fun k => cd_fv w ci k a) := by
  obtain ⟨-, -, h3⟩ := h.2.2.2 a (by omega)
  obtain ⟨q', e1, e2⟩ := h3.1 ci ha
  cases Option.some.inj (e1.symm.trans hq)
  exact e2
theorem cd_Hp.arr {G : cd_Gl} {w : cd_Wd} {H : Heap} (h : cd_Hp G w H) {a i : Nat} (ha : cd_kd w a = 2 * i + 1) : H[a]? = some (arrV (G.2.1 i) (cd_ln w a) (fun j => cd_av w i a j)) := (h.2.2.2 a (by omega)).2.2.2 i ha
/-- a cell that isn't touched keeps what it holds, if the world says the same of it -/
theorem cd_At.kept {G : cd_Gl} {w w' : cd_Wd} {H H' : Heap} {a : Nat} (h : cd_At G w H a) (hq : H'[a]? = H[a]?) (hk : cd_kd w' a = cd_kd w a) (hl : cd_ln w' a = cd_ln w a)
    (hI : ∀ t j, cd_I w' t a j = cd_I w t a j) (hO : ∀ t j, cd_O w' t a j = cd_O w t a j) (hJ : ∀ j, cd_J w' a j = cd_J w a j) : cd_At G w' H' a := by
  refine ⟨fun ci hc => ?_, fun i hi => ?_⟩
  · obtain ⟨q, e1, e2⟩ := h.1 ci (hk ▸ hc)
    refine ⟨q, e1, (e2.kept hq).to fun k _ => ?_⟩
    simp only [cd_fv, hI, hO]
  · rw [hq, h.2 i (hk ▸ hi), hl]
    congr 2
    funext j
    simp only [cd_av, hI, hO, hJ]
/-- one cell of ours changes -/
theorem cd_Hp.upd {G : cd_Gl} {w w' : cd_Wd} {H H' : Heap} {a : Nat} (h : cd_Hp G w H) (hz : H'.size = H.size) (ho : ∀ q, q ≠ a → H'[q]? = H[q]?) (ha : cd_kd w a ≠ 0) (hs : ∀ c, H'[a]? = some c → c.vm.isStatics = false)
    (hk : ∀ b, cd_kd w' b = cd_kd w b) (hl : ∀ b, cd_ln w' b = cd_ln w b) (hI : ∀ t b j, b ≠ a → cd_I w' t b j = cd_I w t b j) (hO : ∀ t b j, b ≠ a → cd_O w' t b j = cd_O w t b j) (hJ : ∀ b j, b ≠ a → cd_J w' b j = cd_J w b j)
    (hat : cd_At G w' H' a) : cd_Hp G w' H' := by
  obtain ⟨h1, h2, h3, h4⟩ := id h
  have hge := h.ge ha
  refine ⟨by omega, fun q hq => ?_, fun b c hb hc => ?_, fun b hb => ?_⟩
  · rw [ho q (by omega)]; exact h2 q hq
  · by_cases e : b = a
    · subst e; exact hs c hc
    · rw [ho b e] at hc; exact h3 b c hb hc
  · rw [hk] at hb
    obtain ⟨g1, g2, g3⟩ := h4 b hb
    refine ⟨g1, by omega, ?_⟩
    by_cases e : b = a
    · subst e; exact hat
    · exact g3.kept (ho b e) (hk b) (hl b) (fun t j => hI t b j e) (fun t j => hO t b j e) (fun j => hJ b j e)
/-- a cell of no kind of ours comes (an exception) -/
theorem cd_Hp.grow {G : cd_Gl} {w : cd_Wd} {H H' : Heap} (h : cd_Hp G w H) (hz : H.size ≤ H'.size) (ho : ∀ q, q < H.size → H'[q]? = H[q]?) (hs : ∀ (q : Nat) (c : Cell), H.size ≤ q → H'[q]? = some c → c.vm.isStatics = false) : cd_Hp G w H' := by
  obtain ⟨h1, h2, h3, h4⟩ := id h
  refine ⟨by omega, fun q hq => ?_, fun b c hb hc => ?_, fun b hb => ?_⟩
  · rw [ho q (by omega)]; exact h2 q hq
  · by_cases e : b < H.size
    · rw [ho b e] at hc; exact h3 b c hb hc
    · exact hs b c (by omega) hc
  · obtain ⟨g1, g2, g3⟩ := h4 b hb
    exact ⟨g1, by omega, g3.kept (ho b g2) rfl rfl (fun _ _ => rfl) (fun _ _ => rfl) (fun _ => rfl)⟩
/-- a new cell of ours -/
theorem cd_Hp.push {G : cd_Gl} {w : cd_Wd} {H H' : Heap} {k n : Nat} (h : cd_Hp G w H) (hz : H'.size = H.size + 1) (ho : ∀ q, q < H.size → H'[q]? = H[q]?) (hs : ∀ c, H'[H.size]? = some c → c.vm.isStatics = false) (hat : cd_At G (cd_wN w H.size k n) H' H.size) : cd_Hp G (cd_wN w H.size k n) H' := by
  obtain ⟨h1, h2, h3, h4⟩ := id h
  refine ⟨by omega, fun q hq => ?_, fun b c hb hc => ?_, fun b hb => ?_⟩
  · rw [ho q (by omega)]; exact h2 q hq
  · by_cases e : b < H.size
    · rw [ho b e] at hc; exact h3 b c hb hc
    · by_cases e2 : b = H.size
      · subst e2; exact hs c hc
      · exfalso
        have := (Array.getElem?_eq_some_iff.mp hc).1
        omega
  · by_cases e : b = H.size
    · subst e; exact ⟨h1, by omega, hat⟩
    · rw [kd_wN, if_neg e] at hb
      obtain ⟨g1, g2, g3⟩ := h4 b hb
      refine ⟨g1, by omega, g3.kept (ho b g2) ?_ ?_ ?_ ?_ ?_⟩
      · rw [kd_wN, if_neg e]
      · rw [ln_wN, if_neg e]
      · intro t j; rw [I_wN, if_neg e]
      · intro t j; rw [O_wN, if_neg e]
      · intro j; rw [J_wN, if_neg e]
/-! ===== locals ===== -/
def cd_Lo (ls : Array Slot) (lv : List (Option Value)) : Prop := ls.size = lv.length ∧ lv_wf ls ∧ ∀ (i : Nat) (v : Value), lv[i]? = some (some v) → ls[i]? = some (.val v) ∧ v.category = 1
def cd_es (lv : List (Option Value)) : List (Nat × Value) := (List.range lv.length).filterMap fun i => match lv[i]? with
  | some (some v) => some (i, v)
  | _ => none
theorem cd_es_mem {lv : List (Option Value)} {i : Nat} {v : Value} : (i, v) ∈ cd_es lv ↔ lv[i]? = some (some v) := by
  simp only [cd_es, List.mem_filterMap, List.mem_range]
  constructor
  · rintro ⟨j, hj, h⟩
    split at h
    · next w hw => cases h; exact hw
    · cases h
  · intro h
    have hl : i < lv.length := (List.getElem?_eq_some_iff.mp h).1
    exact ⟨i, hl, by rw [h]⟩
theorem cd_Lo.has {ls : Array Slot} {lv : List (Option Value)} (h : cd_Lo ls lv) : lv_has ls lv.length (cd_es lv) := ⟨h.1, h.2.1, fun q hq => (h.2.2 q.1 q.2 (cd_es_mem.mp hq)).1⟩
theorem cd_Lo.set {ls ls' : Array Slot} {lv : List (Option Value)} {i : Nat} {v : Value} (h : cd_Lo ls lv) (hc : v.category = 1) (h' : lv_has ls' lv.length ((i, v) :: (cd_es lv).filter (fun q => !(q.1 == i) && !(q.1 + 1 == i && q.2.category == 2)))) : cd_Lo ls' (lv.set i (some v)) := by
  refine ⟨by rw [List.length_set]; exact h'.1, h'.2.1, fun j u hj => ?_⟩
  by_cases e : j = i
  · subst e
    have hl : j < (lv.set j (some v)).length := (List.getElem?_eq_some_iff.mp hj).1
    rw [List.length_set] at hl
    rw [List.getElem?_set_self hl] at hj
    cases hj
    exact ⟨h'.2.2 (j, v) List.mem_cons_self, hc⟩
  · rw [List.getElem?_set_ne (Ne.symm e)] at hj
    have hu := (h.2.2 j u hj).2
    refine ⟨h'.2.2 (j, u) (List.mem_cons_of_mem _ (List.mem_filter.mpr ⟨cd_es_mem.mpr hj, ?_⟩)), hu⟩
    simp [e, hu]
theorem cd_Lo.entry {vs : List Value} {n : Nat} (h1 : ∀ v ∈ vs, v.category = 1) (hn : vs.length ≤ n) : cd_Lo ((lg_sl vs ++ List.replicate (n - (lg_sl vs).length) Slot.unset).toArray) (vs.map some ++ List.replicate (n - vs.length) none) := by
  have hsl : ∀ us : List Value, (∀ v ∈ us, v.category = 1) → lg_sl us = us.map Slot.val := by
    intro us
    induction us with
    | nil => intro _; rfl
    | cons u us ih =>
      intro hu
      have h2 : u.category = 1 := hu u List.mem_cons_self
      have h3 := ih fun v hv => hu v (List.mem_cons_of_mem _ hv)
      simp only [lg_sl, List.flatMap_cons, h2] at h3 ⊢
      simp [h3]
  have hl : (lg_sl vs).length = vs.length := by rw [hsl vs h1, List.length_map]
  have e := lv_entry vs (n := n) (by rw [hl]; exact hn)
  refine ⟨?_, e.2.1, fun i v hi => ?_⟩
  · rw [e.1, List.length_append, List.length_map, List.length_replicate]; omega
  · by_cases hlt : i < vs.length
    · rw [List.getElem?_append_left (by simpa using hlt), List.getElem?_map] at hi
      cases hv : vs[i]? with
      | none => rw [hv] at hi; cases hi
      | some u =>
        rw [hv] at hi
        cases hi
        refine ⟨?_, h1 _ (List.mem_of_getElem? hv)⟩
        rw [hsl vs h1, List.getElem?_toArray, List.getElem?_append_left (by simpa using hlt), List.getElem?_map, hv]
        rfl
    · rw [List.getElem?_append_right (by simpa using Nat.le_of_not_lt hlt)] at hi
      have := List.eq_of_mem_replicate (List.mem_of_getElem? hi)
      cases this
end
section
/-! ===== TABLES: what every state of the run has =====
cd_gw: a word that the tables alone decide and that stays true when they are warmed -/
theorem cd_gw_at {c : Cond} (hc : cd_gw c = true) {a a' : Array Value} {s U : State} (hW : s.WarmedH U.vm) (h : c.before a s = true) : c.before a' U = true := by
  simp only [cd_gw, Bool.and_eq_true] at hc
  have h1 : c.before a (s.setVm U.vm) = true := Cond.before_shiftedFace (State.Shifted.of_warmed hW) c hc.2 h
  exact va_tabs hc.1 (rfl : (s.setVm U.vm).vm = U.vm) h1
def cd_tys (G : cd_Gl) : List (ClassId × FieldType) := (List.range cd_ty.length).filterMap fun i => (cd_ty[i]?).map fun t => (G.2.1 i, t)
theorem cd_tys_get {G : cd_Gl} {i : Nat} {t : FieldType} (h : cd_ty[i]? = some t) : ∃ k : Nat, (cd_tys G)[k]? = some (G.2.1 i, t) := by
  apply List.getElem?_of_mem
  exact List.mem_filterMap.mpr ⟨i, List.mem_range.mpr (List.getElem?_eq_some_iff.mp h).1, by rw [h]; rfl⟩
/-- a static of Throwable that holds a reference, at its place in the heap of the start -/
def cd_Zr (G : cd_Gl) (n d : String) (s : State) : Prop := ∃ (c : ClassId) (k : Class) (i : Nat) (f : Field) (a : Nat) (cell : Cell) (v : Value), s.vm.findClass Bundle.tN = some c ∧ s.fieldFound? Bundle.tN n d = some (c, k, i, f) ∧ f.isStatic = true ∧ k.statics = some a ∧ G.2.2[a]? = some cell ∧ cell.vm.isStatics = true ∧ cell.cls = c ∧ f.slot < cell.slots.size ∧ k.staticTypes[f.slot]? = some f.type ∧ cell.slots[f.slot]? = some v ∧ v.isRef = true
theorem cd_Zr.warm {G : cd_Gl} {n d : String} {s U : State} (hvm : s.vm.Alike U.vm) (h : cd_Zr G n d s) : cd_Zr G n d U := by
  obtain ⟨c, k, i, f, a, cell, v, h1, h2, h3, h4, h5, h6, h7, h8, h9, h10⟩ := h
  obtain ⟨k', e1, e2⟩ := State.fieldFound?_setVm hvm h2
  refine ⟨c, k', i, f, a, cell, v, by rw [hvm.findClass]; exact h1, e1, h3, by rw [e2]; exact h4, h5, h6, h7, h8, by rw [e2]; exact h9, h10⟩
def cd_Tb (G : cd_Gl) (s : State) : Prop :=
  (∀ c ∈ lw_tbl, cd_gw c = true → ∀ a, c.before a s = true) ∧ va_K G.1 cd_cls (cd_tys G) s ∧
  (∀ (i : Nat) (t : FieldType), cd_ty[i]? = some t → match t with
    | .object C => va_AO C s
    | t => (Cond.arrayClass t).before #[] s = true) ∧
  (∀ x ∈ cd_str, ∃ a, vk_R x.1 x.2.1 x.2.2 a s) ∧
  cd_Zr G "UNASSIGNED_STACK" Bundle.steD s ∧ cd_Zr G "SUPPRESSED_SENTINEL" Bundle.listD s ∧
  (∀ i j : Nat, 1 ≤ i → i ≤ 6 → 1 ≤ j → j ≤ 6 → i ≠ j → va_Nc (cd_ex i) (cd_ex j) s)
theorem cd_Tb.warm {G : cd_Gl} {s U : State} (hW : s.WarmedH U.vm) (h : cd_Tb G s) : cd_Tb G U := by
  obtain ⟨h1, h2, h3, h4, h5, h6, h7⟩ := h
  refine ⟨fun c hc hg a => cd_gw_at hg hW (h1 c hc hg #[]), h2.moved hW.alike, fun i t ht => ?_, fun x hx => ?_, h5.warm hW.alike, h6.warm hW.alike, fun i j a b c d e => (h7 i j a b c d e).moved hW.alike⟩
  · have h := h3 i t ht
    cases t with
    | object C => exact va_AO.moved hW.alike h
    | _ => exact word_at hW (Or.inr ⟨_, rfl⟩) h
  · obtain ⟨a, ha⟩ := h4 x hx
    exact ⟨a, ha.warm hW⟩
/-! ===== A FRAME: where a method stands ===== -/
abbrev cd_Cx : Type := Program × Env × Room × State × MethodId × Array Value × List Frame × Method × Code
abbrev cx_p (C : cd_Cx) : Program := C.1
abbrev cx_e (C : cd_Cx) : Env := C.2.1
abbrev cx_R (C : cd_Cx) : Room := C.2.2.1
abbrev cx_s (C : cd_Cx) : State := C.2.2.2.1
abbrev cx_m (C : cd_Cx) : MethodId := C.2.2.2.2.1
abbrev cx_a (C : cd_Cx) : Array Value := C.2.2.2.2.2.1
abbrev cx_b (C : cd_Cx) : List Frame := C.2.2.2.2.2.2.1
abbrev cx_h (C : cd_Cx) : Method := C.2.2.2.2.2.2.2.1
abbrev cx_c (C : cd_Cx) : Code := C.2.2.2.2.2.2.2.2
def cd_H0 (G : cd_Gl) (H : Heap) : Prop := G.2.2.size ≤ H.size ∧ (∀ q, q < G.2.2.size → H[q]? = G.2.2[q]?) ∧ ∀ (a : Nat) (c : Cell), G.2.2.size ≤ a → H[a]? = some c → c.vm.isStatics = false
theorem cd_Hp.h0 {G : cd_Gl} {w : cd_Wd} {H : Heap} (h : cd_Hp G w H) : cd_H0 G H := ⟨h.1, h.2.1, h.2.2.1⟩
/-- what holds in a frame of the method y: its bytes, its locals, its answer's type, its handlers; the tables -/
def cd_Ok (G : cd_Gl) (y : MethodName) (cc : ByteArray) (nL : Nat) (ret : Option FieldType) (ex : List (Nat × Nat × Nat × Nat)) (R : Room) (C : cd_Cx) : Prop :=
  (cx_p C).tables.exec = Jvm.exec ∧ (cx_c C).code = cc ∧ (cx_c C).maxLocals = nL ∧ (cx_s C).vm.findClass y.cls = some (cx_m C).cls ∧ (cx_h C).sig.returnType = ret ∧ (cx_h C).locks = false ∧ (cx_h C).name = y.name ∧
  cd_Tb G (cx_s C) ∧ (cx_c C).exceptionTable.toList.map (fun h => (h.startPc, h.endPc, h.handlerPc, h.catchType)) = ex ∧ cx_R C = R ∧ cd_H0 G (cx_s C).heap
/-- the machine, from this point of this frame, comes to Q -/
def cd_Go (G : cd_Gl) (l : Launch) (C : cd_Cx) (Q : State → Prop) (k n : Nat) (w : cd_Wd) (pc : Nat) (lv : List (Option Value)) (st : List Value) : Prop :=
  ∀ (H : Heap) (locs : List Loc) (ls : Array Slot), cd_Hp G w H → (∀ x ∈ locs, G.2.2.size ≤ x.base) → cd_Lo ls lv → W (cx_p C) l (cx_e C) (cx_R C) (cx_s C) (cx_m C) (cx_a C) (cx_b C) (cx_h C) (cx_c C) H locs k n Q (F0 (cx_m C) pc ls st)
section Rows
variable {G : cd_Gl} {l : Launch} {C : cd_Cx} {Q : State → Prop} {k n : Nat} {w : cd_Wd} {pc : Nat} {lv : List (Option Value)} {rest : List Value} {y : MethodName} {cc : ByteArray} {nL : Nat} {ret : Option FieldType} {ex : List (Nat × Nat × Nat × Nat)} {R : Room}
theorem g_iconst (O : cd_Ok G y cc nL ret ex R C) {i : Int} {v : Int32} (hd : decode cc pc = .ok (.iconst i, 1)) (hv : Int32.ofInt i = v) (h : cd_Go G l C Q k n w (pc + 1) lv (.int v :: rest)) : cd_Go G l C Q k n w pc lv rest :=
  fun H locs ls a b c => lv_iconst O.1 O.2.1 hd hv (h H locs ls a b c)
theorem g_bipush (O : cd_Ok G y cc nL ret ex R C) {i : Int} {v : Int32} (hd : decode cc pc = .ok (.bipush i, 2)) (hv : (Int8.ofInt i).toInt32 = v) (h : cd_Go G l C Q k n w (pc + 2) lv (.int v :: rest)) : cd_Go G l C Q k n w pc lv rest :=
  fun H locs ls a b c => lv_bipush O.1 O.2.1 hd hv (h H locs ls a b c)
theorem g_null (O : cd_Ok G y cc nL ret ex R C) (hd : decode cc pc = .ok (.aconst_null, 1)) (h : cd_Go G l C Q k n w (pc + 1) lv (va_rf none :: rest)) : cd_Go G l C Q k n w pc lv rest :=
  fun H locs ls a b c => lv_null O.1 O.2.1 hd (h H locs ls a b c)
theorem g_iload_n (O : cd_Ok G y cc nL ret ex R C) {f : Fin 4} (i : Nat) {v : Int32} (hd : decode cc pc = .ok (.iload_n f, 1)) (hi : (f : Nat) = i) (hv : lv[i]? = some (some (.int v))) (h : cd_Go G l C Q k n w (pc + 1) lv (.int v :: rest)) : cd_Go G l C Q k n w pc lv rest :=
  fun H locs ls a b c => lv_iload_n O.1 O.2.1 hd hi (c.2.2 _ _ hv).1 (h H locs ls a b c)
theorem g_iload (O : cd_Ok G y cc nL ret ex R C) {i : Nat} {v : Int32} (hd : decode cc pc = .ok (.iload i, 2)) (hv : lv[i]? = some (some (.int v))) (h : cd_Go G l C Q k n w (pc + 2) lv (.int v :: rest)) : cd_Go G l C Q k n w pc lv rest :=
  fun H locs ls a b c => lv_iload O.1 O.2.1 hd (c.2.2 _ _ hv).1 (h H locs ls a b c)
theorem g_aload_n (O : cd_Ok G y cc nL ret ex R C) {f : Fin 4} (i : Nat) {v : Nat} (hd : decode cc pc = .ok (.aload_n f, 1)) (hi : (f : Nat) = i) (hv : lv[i]? = some (some (.ref v))) (h : cd_Go G l C Q k n w (pc + 1) lv (.ref v :: rest)) : cd_Go G l C Q k n w pc lv rest :=
  fun H locs ls a b c => lv_aload_n O.1 O.2.1 hd hi (c.2.2 _ _ hv).1 (h H locs ls a b c)
theorem g_aload (O : cd_Ok G y cc nL ret ex R C) {i : Nat} {v : Nat} (hd : decode cc pc = .ok (.aload i, 2)) (hv : lv[i]? = some (some (.ref v))) (h : cd_Go G l C Q k n w (pc + 2) lv (.ref v :: rest)) : cd_Go G l C Q k n w pc lv rest :=
  fun H locs ls a b c => lv_aload O.1 O.2.1 hd (c.2.2 _ _ hv).1 (h H locs ls a b c)
theorem g_aload_nq (O : cd_Ok G y cc nL ret ex R C) {f : Fin 4} (i : Nat) {r : Option Nat} (hd : decode cc pc = .ok (.aload_n f, 1)) (hi : (f : Nat) = i) (hv : lv[i]? = some (some (va_rf r))) (h : cd_Go G l C Q k n w (pc + 1) lv (va_rf r :: rest)) : cd_Go G l C Q k n w pc lv rest := by
  intro H locs ls a b c
  have hc := (c.2.2 _ _ hv).1
  cases r with
  | none => exact lv_aload_nN O.1 O.2.1 hd hi hc (h H locs ls a b c)
  | some v => exact lv_aload_n O.1 O.2.1 hd hi hc (h H locs ls a b c)
theorem g_aloadq (O : cd_Ok G y cc nL ret ex R C) {i : Nat} {r : Option Nat} (hd : decode cc pc = .ok (.aload i, 2)) (hv : lv[i]? = some (some (va_rf r))) (h : cd_Go G l C Q k n w (pc + 2) lv (va_rf r :: rest)) : cd_Go G l C Q k n w pc lv rest := by
  intro H locs ls a b c
  have hc := (c.2.2 _ _ hv).1
  cases r with
  | none => exact lv_aloadN O.1 O.2.1 hd hc (h H locs ls a b c)
  | some v => exact lv_aload O.1 O.2.1 hd hc (h H locs ls a b c)
theorem g_istore_n (O : cd_Ok G y cc nL ret ex R C) {f : Fin 4} (i : Nat) {v : Int32} (hd : decode cc pc = .ok (.istore_n f, 1)) (hf : (f : Nat) = i) (hi : i < lv.length) (h : cd_Go G l C Q k n w (pc + 1) (lv.set i (some (.int v))) rest) : cd_Go G l C Q k n w pc lv (.int v :: rest) :=
  fun H locs _ a b c => lv_istore_n O.1 O.2.1 hd hf c.has hi rfl fun ls' h' => h H locs ls' a b (c.set rfl h')
theorem g_istore (O : cd_Ok G y cc nL ret ex R C) {i : Nat} {v : Int32} (hd : decode cc pc = .ok (.istore i, 2)) (hi : i < lv.length) (h : cd_Go G l C Q k n w (pc + 2) (lv.set i (some (.int v))) rest) : cd_Go G l C Q k n w pc lv (.int v :: rest) :=
  fun H locs _ a b c => lv_istore O.1 O.2.1 hd c.has hi rfl fun ls' h' => h H locs ls' a b (c.set rfl h')
theorem g_astore_n (O : cd_Ok G y cc nL ret ex R C) {f : Fin 4} (i : Nat) {v : Nat} (hd : decode cc pc = .ok (.astore_n f, 1)) (hf : (f : Nat) = i) (hi : i < lv.length) (h : cd_Go G l C Q k n w (pc + 1) (lv.set i (some (.ref v))) rest) : cd_Go G l C Q k n w pc lv (.ref v :: rest) :=
  fun H locs _ a b c => lv_astore_n O.1 O.2.1 hd hf c.has hi rfl fun ls' h' => h H locs ls' a b (c.set rfl h')
theorem g_astore (O : cd_Ok G y cc nL ret ex R C) {i : Nat} {v : Nat} (hd : decode cc pc = .ok (.astore i, 2)) (hi : i < lv.length) (h : cd_Go G l C Q k n w (pc + 2) (lv.set i (some (.ref v))) rest) : cd_Go G l C Q k n w pc lv (.ref v :: rest) :=
  fun H locs _ a b c => lv_astore O.1 O.2.1 hd c.has hi rfl fun ls' h' => h H locs ls' a b (c.set rfl h')
theorem g_astore_nq (O : cd_Ok G y cc nL ret ex R C) {f : Fin 4} (i : Nat) {r : Option Nat} (hd : decode cc pc = .ok (.astore_n f, 1)) (hf : (f : Nat) = i) (hi : i < lv.length) (h : cd_Go G l C Q k n w (pc + 1) (lv.set i (some (va_rf r))) rest) : cd_Go G l C Q k n w pc lv (va_rf r :: rest) := by
  intro H locs _ a b c
  cases r with
  | none => exact lv_astore_nN O.1 O.2.1 hd hf c.has hi rfl fun ls' h' => h H locs ls' a b (c.set rfl h')
  | some v => exact lv_astore_n O.1 O.2.1 hd hf c.has hi rfl fun ls' h' => h H locs ls' a b (c.set rfl h')
theorem g_astoreq (O : cd_Ok G y cc nL ret ex R C) {i : Nat} {r : Option Nat} (hd : decode cc pc = .ok (.astore i, 2)) (hi : i < lv.length) (h : cd_Go G l C Q k n w (pc + 2) (lv.set i (some (va_rf r))) rest) : cd_Go G l C Q k n w pc lv (va_rf r :: rest) := by
  intro H locs _ a b c
  cases r with
  | none => exact lv_astoreN O.1 O.2.1 hd c.has hi rfl fun ls' h' => h H locs ls' a b (c.set rfl h')
  | some v => exact lv_astore O.1 O.2.1 hd c.has hi rfl fun ls' h' => h H locs ls' a b (c.set rfl h')
theorem g_iinc (O : cd_Ok G y cc nL ret ex R C) {i : Nat} {d : Int} {x v : Int32} (hd : decode cc pc = .ok (.iinc i d, 3)) (hv : lv[i]? = some (some (.int x))) (he : x + Int32.ofInt d = v) (h : cd_Go G l C Q k n w (pc + 3) (lv.set i (some (.int v))) rest) : cd_Go G l C Q k n w pc lv rest := by
  intro H locs _ a b c
  obtain ⟨z, hz⟩ := List.getElem?_of_mem (cd_es_mem.mpr hv)
  exact lv_iinc O.1 O.2.1 hd c.has hz he (List.getElem?_eq_some_iff.mp hv).1 rfl fun ls' h' => h H locs ls' a b (c.set rfl h')
theorem g_iadd (O : cd_Ok G y cc nL ret ex R C) {x z : Int32} (hd : decode cc pc = .ok (.iadd, 1)) (h : cd_Go G l C Q k n w (pc + 1) lv (.int (x + z) :: rest)) : cd_Go G l C Q k n w pc lv (.int z :: .int x :: rest) :=
  fun H locs ls a b c => lv_iadd O.1 O.2.1 hd (h H locs ls a b c)
theorem g_isub (O : cd_Ok G y cc nL ret ex R C) {x z : Int32} (hd : decode cc pc = .ok (.isub, 1)) (h : cd_Go G l C Q k n w (pc + 1) lv (.int (x - z) :: rest)) : cd_Go G l C Q k n w pc lv (.int z :: .int x :: rest) :=
  fun H locs ls a b c => lv_isub O.1 O.2.1 hd (h H locs ls a b c)
theorem g_imul (O : cd_Ok G y cc nL ret ex R C) {x z : Int32} (hd : decode cc pc = .ok (.imul, 1)) (h : cd_Go G l C Q k n w (pc + 1) lv (.int (x * z) :: rest)) : cd_Go G l C Q k n w pc lv (.int z :: .int x :: rest) :=
  fun H locs ls a b c => lv_imul O.1 O.2.1 hd (h H locs ls a b c)
theorem g_iand (O : cd_Ok G y cc nL ret ex R C) {x z : Int32} (hd : decode cc pc = .ok (.iand, 1)) (h : cd_Go G l C Q k n w (pc + 1) lv (.int (x &&& z) :: rest)) : cd_Go G l C Q k n w pc lv (.int z :: .int x :: rest) :=
  fun H locs ls a b c => lv_iand O.1 O.2.1 hd (h H locs ls a b c)
theorem g_ior (O : cd_Ok G y cc nL ret ex R C) {x z : Int32} (hd : decode cc pc = .ok (.ior, 1)) (h : cd_Go G l C Q k n w (pc + 1) lv (.int (x ||| z) :: rest)) : cd_Go G l C Q k n w pc lv (.int z :: .int x :: rest) :=
  fun H locs ls a b c => lv_ior O.1 O.2.1 hd (h H locs ls a b c)
theorem g_ixor (O : cd_Ok G y cc nL ret ex R C) {x z : Int32} (hd : decode cc pc = .ok (.ixor, 1)) (h : cd_Go G l C Q k n w (pc + 1) lv (.int (x ^^^ z) :: rest)) : cd_Go G l C Q k n w pc lv (.int z :: .int x :: rest) :=
  fun H locs ls a b c => lv_ixor O.1 O.2.1 hd (h H locs ls a b c)
theorem g_idiv (O : cd_Ok G y cc nL ret ex R C) {x z : Int32} (hd : decode cc pc = .ok (.idiv, 1)) (hz : z ≠ 0) (h : cd_Go G l C Q k n w (pc + 1) lv (.int (x / z) :: rest)) : cd_Go G l C Q k n w pc lv (.int z :: .int x :: rest) :=
  fun H locs ls a b c => lv_idiv O.1 O.2.1 hd hz (h H locs ls a b c)
theorem g_irem (O : cd_Ok G y cc nL ret ex R C) {x z : Int32} (hd : decode cc pc = .ok (.irem, 1)) (hz : z ≠ 0) (h : cd_Go G l C Q k n w (pc + 1) lv (.int (x - x / z * z) :: rest)) : cd_Go G l C Q k n w pc lv (.int z :: .int x :: rest) :=
  fun H locs ls a b c => lv_irem O.1 O.2.1 hd hz (h H locs ls a b c)
theorem g_dup2 (O : cd_Ok G y cc nL ret ex R C) {u v : Value} (hd : decode cc pc = .ok (.dup2, 1)) (hu : u.category = 1) (hv : v.category = 1) (h : cd_Go G l C Q k n w (pc + 1) lv (u :: v :: u :: v :: rest)) : cd_Go G l C Q k n w pc lv (u :: v :: rest) :=
  fun H locs ls a b c => lv_dup2_11 O.1 O.2.1 hd hu hv (h H locs ls a b c)
theorem g_sipush (O : cd_Ok G y cc nL ret ex R C) {i : Int} {v : Int32} (hd : decode cc pc = .ok (.sipush i, 3)) (hv : (Int16.ofInt i).toInt32 = v) (h : cd_Go G l C Q k n w (pc + 3) lv (.int v :: rest)) : cd_Go G l C Q k n w pc lv rest :=
  fun H locs ls a b c => lv_sipush O.1 O.2.1 hd hv (h H locs ls a b c)
theorem g_i2l (O : cd_Ok G y cc nL ret ex R C) {x : Int32} {v : Int64} (hd : decode cc pc = .ok (.i2l, 1)) (hv : x.toInt64 = v) (h : cd_Go G l C Q k n w (pc + 1) lv (.long v :: rest)) : cd_Go G l C Q k n w pc lv (.int x :: rest) :=
  fun H locs ls a b c => lv_i2l O.1 O.2.1 hd hv (h H locs ls a b c)
theorem g_dup (O : cd_Ok G y cc nL ret ex R C) {v : Value} (hd : decode cc pc = .ok (.dup, 1)) (hv : v.category = 1) (h : cd_Go G l C Q k n w (pc + 1) lv (v :: v :: rest)) : cd_Go G l C Q k n w pc lv (v :: rest) :=
  fun H locs ls a b c => lv_dup O.1 O.2.1 hd hv (h H locs ls a b c)
theorem g_pop (O : cd_Ok G y cc nL ret ex R C) {v : Value} (hd : decode cc pc = .ok (.pop, 1)) (hv : v.category = 1) (h : cd_Go G l C Q k n w (pc + 1) lv rest) : cd_Go G l C Q k n w pc lv (v :: rest) :=
  fun H locs ls a b c => lv_pop O.1 O.2.1 hd hv (h H locs ls a b c)
theorem g_goto (O : cd_Ok G y cc nL ret ex R C) {off : Int} (tgt : Nat) (hd : decode cc pc = .ok (.goto off, 3)) (ht : (pc : Int) + off = (tgt : Int)) (h : cd_Go G l C Q k n w tgt lv rest) : cd_Go G l C Q k n w pc lv rest :=
  fun H locs ls a b c => lv_goto O.1 O.2.1 hd ht (h H locs ls a b c)
theorem g_if_eq (O : cd_Ok G y cc nL ret ex R C) {x : Int32} {off : Int} (tgt : Nat) (hd : decode cc pc = .ok (.ifCond .eq off, 3)) (ht : (pc : Int) + off = (tgt : Int)) (h1 : x = 0 → cd_Go G l C Q k n w tgt lv rest) (h2 : ¬ x = 0 → cd_Go G l C Q k n w (pc + 3) lv rest) : cd_Go G l C Q k n w pc lv (.int x :: rest) :=
  fun H locs ls a b c => lv_if_eq O.1 O.2.1 hd ht (fun z => h1 z H locs ls a b c) (fun z => h2 z H locs ls a b c)
theorem g_icmp_eq (O : cd_Ok G y cc nL ret ex R C) {x z : Int32} {off : Int} (tgt : Nat) (hd : decode cc pc = .ok (.if_icmp .eq off, 3)) (ht : (pc : Int) + off = (tgt : Int)) (h1 : x = z → cd_Go G l C Q k n w tgt lv rest) (h2 : ¬ x = z → cd_Go G l C Q k n w (pc + 3) lv rest) : cd_Go G l C Q k n w pc lv (.int z :: .int x :: rest) :=
  fun H locs ls a b c => lv_icmp_eq O.1 O.2.1 hd ht (fun q => h1 q H locs ls a b c) (fun q => h2 q H locs ls a b c)
theorem g_if_ne (O : cd_Ok G y cc nL ret ex R C) {x : Int32} {off : Int} (tgt : Nat) (hd : decode cc pc = .ok (.ifCond .ne off, 3)) (ht : (pc : Int) + off = (tgt : Int)) (h1 : ¬ x = 0 → cd_Go G l C Q k n w tgt lv rest) (h2 : x = 0 → cd_Go G l C Q k n w (pc + 3) lv rest) : cd_Go G l C Q k n w pc lv (.int x :: rest) :=
  fun H locs ls a b c => lv_if_ne O.1 O.2.1 hd ht (fun z => h1 z H locs ls a b c) (fun z => h2 z H locs ls a b c)
theorem g_icmp_ne (O : cd_Ok G y cc nL ret ex R C) {x z : Int32} {off : Int} (tgt : Nat) (hd : decode cc pc = .ok (.if_icmp .ne off, 3)) (ht : (pc : Int) + off = (tgt : Int)) (h1 : ¬ x = z → cd_Go G l C Q k n w tgt lv rest) (h2 : x = z → cd_Go G l C Q k n w (pc + 3) lv rest) : cd_Go G l C Q k n w pc lv (.int z :: .int x :: rest) :=
  fun H locs ls a b c => lv_icmp_ne O.1 O.2.1 hd ht (fun q => h1 q H locs ls a b c) (fun q => h2 q H locs ls a b c)
theorem g_if_lt (O : cd_Ok G y cc nL ret ex R C) {x : Int32} {off : Int} (tgt : Nat) (hd : decode cc pc = .ok (.ifCond .lt off, 3)) (ht : (pc : Int) + off = (tgt : Int)) (h1 : x < 0 → cd_Go G l C Q k n w tgt lv rest) (h2 : ¬ x < 0 → cd_Go G l C Q k n w (pc + 3) lv rest) : cd_Go G l C Q k n w pc lv (.int x :: rest) :=
  fun H locs ls a b c => lv_if_lt O.1 O.2.1 hd ht (fun z => h1 z H locs ls a b c) (fun z => h2 z H locs ls a b c)
theorem g_icmp_lt (O : cd_Ok G y cc nL ret ex R C) {x z : Int32} {off : Int} (tgt : Nat) (hd : decode cc pc = .ok (.if_icmp .lt off, 3)) (ht : (pc : Int) + off = (tgt : Int)) (h1 : x < z → cd_Go G l C Q k n w tgt lv rest) (h2 : ¬ x < z → cd_Go G l C Q k n w (pc + 3) lv rest) : cd_Go G l C Q k n w pc lv (.int z :: .int x :: rest) :=
  fun H locs ls a b c => lv_icmp_lt O.1 O.2.1 hd ht (fun q => h1 q H locs ls a b c) (fun q => h2 q H locs ls a b c)
theorem g_if_ge (O : cd_Ok G y cc nL ret ex R C) {x : Int32} {off : Int} (tgt : Nat) (hd : decode cc pc = .ok (.ifCond .ge off, 3)) (ht : (pc : Int) + off = (tgt : Int)) (h1 : 0 ≤ x → cd_Go G l C Q k n w tgt lv rest) (h2 : ¬ 0 ≤ x → cd_Go G l C Q k n w (pc + 3) lv rest) : cd_Go G l C Q k n w pc lv (.int x :: rest) :=
  fun H locs ls a b c => lv_if_ge O.1 O.2.1 hd ht (fun z => h1 z H locs ls a b c) (fun z => h2 z H locs ls a b c)
theorem g_icmp_ge (O : cd_Ok G y cc nL ret ex R C) {x z : Int32} {off : Int} (tgt : Nat) (hd : decode cc pc = .ok (.if_icmp .ge off, 3)) (ht : (pc : Int) + off = (tgt : Int)) (h1 : z ≤ x → cd_Go G l C Q k n w tgt lv rest) (h2 : ¬ z ≤ x → cd_Go G l C Q k n w (pc + 3) lv rest) : cd_Go G l C Q k n w pc lv (.int z :: .int x :: rest) :=
  fun H locs ls a b c => lv_icmp_ge O.1 O.2.1 hd ht (fun q => h1 q H locs ls a b c) (fun q => h2 q H locs ls a b c)
theorem g_if_gt (O : cd_Ok G y cc nL ret ex R C) {x : Int32} {off : Int} (tgt : Nat) (hd : decode cc pc = .ok (.ifCond .gt off, 3)) (ht : (pc : Int) + off = (tgt : Int)) (h1 : 0 < x → cd_Go G l C Q k n w tgt lv rest) (h2 : ¬ 0 < x → cd_Go G l C Q k n w (pc + 3) lv rest) : cd_Go G l C Q k n w pc lv (.int x :: rest) :=
  fun H locs ls a b c => lv_if_gt O.1 O.2.1 hd ht (fun z => h1 z H locs ls a b c) (fun z => h2 z H locs ls a b c)
theorem g_icmp_gt (O : cd_Ok G y cc nL ret ex R C) {x z : Int32} {off : Int} (tgt : Nat) (hd : decode cc pc = .ok (.if_icmp .gt off, 3)) (ht : (pc : Int) + off = (tgt : Int)) (h1 : z < x → cd_Go G l C Q k n w tgt lv rest) (h2 : ¬ z < x → cd_Go G l C Q k n w (pc + 3) lv rest) : cd_Go G l C Q k n w pc lv (.int z :: .int x :: rest) :=
  fun H locs ls a b c => lv_icmp_gt O.1 O.2.1 hd ht (fun q => h1 q H locs ls a b c) (fun q => h2 q H locs ls a b c)
theorem g_if_le (O : cd_Ok G y cc nL ret ex R C) {x : Int32} {off : Int} (tgt : Nat) (hd : decode cc pc = .ok (.ifCond .le off, 3)) (ht : (pc : Int) + off = (tgt : Int)) (h1 : x ≤ 0 → cd_Go G l C Q k n w tgt lv rest) (h2 : ¬ x ≤ 0 → cd_Go G l C Q k n w (pc + 3) lv rest) : cd_Go G l C Q k n w pc lv (.int x :: rest) :=
  fun H locs ls a b c => lv_if_le O.1 O.2.1 hd ht (fun z => h1 z H locs ls a b c) (fun z => h2 z H locs ls a b c)
theorem g_icmp_le (O : cd_Ok G y cc nL ret ex R C) {x z : Int32} {off : Int} (tgt : Nat) (hd : decode cc pc = .ok (.if_icmp .le off, 3)) (ht : (pc : Int) + off = (tgt : Int)) (h1 : x ≤ z → cd_Go G l C Q k n w tgt lv rest) (h2 : ¬ x ≤ z → cd_Go G l C Q k n w (pc + 3) lv rest) : cd_Go G l C Q k n w pc lv (.int z :: .int x :: rest) :=
  fun H locs ls a b c => lv_icmp_le O.1 O.2.1 hd ht (fun q => h1 q H locs ls a b c) (fun q => h2 q H locs ls a b c)
theorem g_acmp_eq (O : cd_Ok G y cc nL ret ex R C) {x z : Option Nat} {off : Int} (tgt : Nat) (hd : decode cc pc = .ok (.if_acmp .eq off, 3)) (ht : (pc : Int) + off = (tgt : Int)) (h1 : x = z → cd_Go G l C Q k n w tgt lv rest) (h2 : ¬ x = z → cd_Go G l C Q k n w (pc + 3) lv rest) : cd_Go G l C Q k n w pc lv (va_rf z :: va_rf x :: rest) :=
  fun H locs ls a b c => lv_acmp_eq O.1 O.2.1 hd ht (fun q => h1 q H locs ls a b c) (fun q => h2 q H locs ls a b c)
theorem g_acmp_ne (O : cd_Ok G y cc nL ret ex R C) {x z : Option Nat} {off : Int} (tgt : Nat) (hd : decode cc pc = .ok (.if_acmp .ne off, 3)) (ht : (pc : Int) + off = (tgt : Int)) (h1 : ¬ x = z → cd_Go G l C Q k n w tgt lv rest) (h2 : x = z → cd_Go G l C Q k n w (pc + 3) lv rest) : cd_Go G l C Q k n w pc lv (va_rf z :: va_rf x :: rest) :=
  fun H locs ls a b c => lv_acmp_ne O.1 O.2.1 hd ht (fun q => h1 q H locs ls a b c) (fun q => h2 q H locs ls a b c)
theorem g_ifnull (O : cd_Ok G y cc nL ret ex R C) {r : Option Nat} {off : Int} (tgt : Nat) (hd : decode cc pc = .ok (.ifnull off, 3)) (ht : (pc : Int) + off = (tgt : Int)) (h1 : r = none → cd_Go G l C Q k n w tgt lv rest) (h2 : ∀ x, r = some x → cd_Go G l C Q k n w (pc + 3) lv rest) : cd_Go G l C Q k n w pc lv (va_rf r :: rest) := by
  intro H locs ls a b c
  cases r with
  | none => exact lv_ifnullN O.1 O.2.1 hd ht (h1 rfl H locs ls a b c)
  | some x => exact lv_ifnull O.1 O.2.1 hd (h2 x rfl H locs ls a b c)
theorem g_ifnonnull (O : cd_Ok G y cc nL ret ex R C) {r : Option Nat} {off : Int} (tgt : Nat) (hd : decode cc pc = .ok (.ifnonnull off, 3)) (ht : (pc : Int) + off = (tgt : Int)) (h1 : ∀ x, r = some x → cd_Go G l C Q k n w tgt lv rest) (h2 : r = none → cd_Go G l C Q k n w (pc + 3) lv rest) : cd_Go G l C Q k n w pc lv (va_rf r :: rest) := by
  intro H locs ls a b c
  cases r with
  | none => exact lv_ifnonnullN O.1 O.2.1 hd (h2 rfl H locs ls a b c)
  | some x => exact lv_ifnonnull O.1 O.2.1 hd ht (h1 x rfl H locs ls a b c)
/-! ### the classes of ours -/
theorem cd_word (O : cd_Ok G y cc nL ret ex R C) {c : Cond} (hm : c ∈ lw_tbl ∧ cd_gw c = true) : c.before (cx_a C) (cx_s C) = true := O.2.2.2.2.2.2.2.1.1 c hm.1 hm.2 _
theorem cd_hts (O : cd_Ok G y cc nL ret ex R C) : ∀ c ∈ lw_tbl.filter cd_gw, c.before (cx_a C) (cx_s C) = true := fun c hc => cd_word O ⟨(List.mem_filter.mp hc).1, (List.mem_filter.mp hc).2⟩
theorem cd_K (O : cd_Ok G y cc nL ret ex R C) : va_K G.1 cd_cls (cd_tys G) (cx_s C) := O.2.2.2.2.2.2.2.1.2.1
def cd_tR : FieldType → Bool
  | .object _ => true
  | .array _ => true
  | _ => false
def cd_tI : FieldType → Bool
  | .int => true
  | .boolean => true
  | _ => false
/-- a class of ours: its number, its row, its fields' types -/
def cd_Cl (ci : Nat) (q : vw_C) (ty : Nat → FieldType) : Prop := cd_cls[ci]? = some q ∧ (∀ c ∈ u_ws q.1 q.2.1 q.2.2, c ∈ lw_tbl ∧ cd_gw c = true) ∧ (∀ k, k < q.2.2 → parseFieldDescriptor (q.2.1 k).2.2.1 = some (ty k)) ∧ (∀ a, a < q.2.2 → ∀ b, b < q.2.2 → a ≠ b → (q.2.1 a).2.1 ≠ (q.2.1 b).2.1) ∧ q.2.2 ≤ 32 ∧ ∀ k, k < q.2.2 → (if cd_rf ci k then cd_tR (ty k) else cd_tI (ty k)) = true
theorem cd_Cl.in {ci : Nat} {q : vw_C} {ty : Nat → FieldType} (h : cd_Cl ci q ty) : ∀ c ∈ u_ws q.1 q.2.1 q.2.2, c ∈ lw_tbl.filter cd_gw := fun c hc => List.mem_filter.mpr (h.2.1 c hc)
theorem g_get (O : cd_Ok G y cc nL ret ex R C) {ci : Nat} {q : vw_C} {ty : Nat → FieldType} (hC : cd_Cl ci q ty) {a : Nat} (fk : Nat) {idx : Nat} (hk : fk < q.2.2) (ha : cd_kd w a = 2 * ci + 2)
    (hl : Cond.fieldLink y.cls idx (q.2.1 fk).1 (q.2.1 fk).2.1 (q.2.1 fk).2.2.1 ∈ lw_tbl ∧ cd_gw (Cond.fieldLink y.cls idx (q.2.1 fk).1 (q.2.1 fk).2.1 (q.2.1 fk).2.2.1) = true) (hd : decode cc pc = .ok (.getfield idx, 3))
    (h : cd_Go G l C Q k n w (pc + 3) lv (cd_fv w ci fk a :: rest)) : cd_Go G l C Q k n w pc lv (.ref a :: rest) := by
  intro H locs ls a1 b1 c1
  have hP : va_P G.1 cd_cls [(a, .inr (ci, (List.range q.2.2).map fun k => cd_fv w ci k a))] H := by
    intro z x hx
    have hz : z < 1 := (List.getElem?_eq_some_iff.mp hx).1
    rw [show z = 0 by omega] at hx
    cases hx
    refine ⟨q, hC.1, (a1.obj ha hC.1).to fun j hj => ?_⟩
    simp [vp_V, hj]
  exact va_get (D := G.1) (v := cd_fv w ci fk a) O.1 O.2.1 (cd_hts O) hC.in O.2.2.2.1 (cd_K O) hP 0 rfl hC.1 fk hk (cd_word O hl) (fun _ h9 => h9) (by simp [hk]) hd (h H locs ls a1 b1 c1)
theorem g_getI (O : cd_Ok G y cc nL ret ex R C) {ci : Nat} {q : vw_C} {ty : Nat → FieldType} (hC : cd_Cl ci q ty) {a : Nat} (fk : Nat) {idx : Nat} (hk : fk < q.2.2) (hr : cd_rf ci fk = false) (ha : cd_kd w a = 2 * ci + 2)
    (hl : Cond.fieldLink y.cls idx (q.2.1 fk).1 (q.2.1 fk).2.1 (q.2.1 fk).2.2.1 ∈ lw_tbl ∧ cd_gw (Cond.fieldLink y.cls idx (q.2.1 fk).1 (q.2.1 fk).2.1 (q.2.1 fk).2.2.1) = true) (hd : decode cc pc = .ok (.getfield idx, 3))
    (h : cd_Go G l C Q k n w (pc + 3) lv (.int (cd_I w (32 * ci + fk) a 0) :: rest)) : cd_Go G l C Q k n w pc lv (.ref a :: rest) :=
  g_get O hC fk hk ha hl hd (by rw [cd_fv, hr]; exact h)
theorem g_getO (O : cd_Ok G y cc nL ret ex R C) {ci : Nat} {q : vw_C} {ty : Nat → FieldType} (hC : cd_Cl ci q ty) {a : Nat} (fk : Nat) {idx : Nat} (hk : fk < q.2.2) (hr : cd_rf ci fk = true) (ha : cd_kd w a = 2 * ci + 2)
    (hl : Cond.fieldLink y.cls idx (q.2.1 fk).1 (q.2.1 fk).2.1 (q.2.1 fk).2.2.1 ∈ lw_tbl ∧ cd_gw (Cond.fieldLink y.cls idx (q.2.1 fk).1 (q.2.1 fk).2.1 (q.2.1 fk).2.2.1) = true) (hd : decode cc pc = .ok (.getfield idx, 3))
    (h : cd_Go G l C Q k n w (pc + 3) lv (va_rf (cd_O w (32 * ci + fk) a 0) :: rest)) : cd_Go G l C Q k n w pc lv (.ref a :: rest) :=
  g_get O hC fk hk ha hl hd (by rw [cd_fv, hr]; exact h)
/-- a field whose reference is known -/
theorem g_getS (O : cd_Ok G y cc nL ret ex R C) {ci : Nat} {q : vw_C} {ty : Nat → FieldType} (hC : cd_Cl ci q ty) {a b : Nat} (fk : Nat) {idx : Nat} (hk : fk < q.2.2) (hr : cd_rf ci fk = true) (ha : cd_kd w a = 2 * ci + 2)
    (hl : Cond.fieldLink y.cls idx (q.2.1 fk).1 (q.2.1 fk).2.1 (q.2.1 fk).2.2.1 ∈ lw_tbl ∧ cd_gw (Cond.fieldLink y.cls idx (q.2.1 fk).1 (q.2.1 fk).2.1 (q.2.1 fk).2.2.1) = true) (hd : decode cc pc = .ok (.getfield idx, 3)) (hb : cd_O w (32 * ci + fk) a 0 = some b)
    (h : cd_Go G l C Q k n w (pc + 3) lv (.ref b :: rest)) : cd_Go G l C Q k n w pc lv (.ref a :: rest) :=
  g_getO O hC fk hk hr ha hl hd (by rw [hb]; exact h)
theorem g_put (O : cd_Ok G y cc nL ret ex R C) {ci : Nat} {q : vw_C} {ty : Nat → FieldType} (hC : cd_Cl ci q ty) {a : Nat} (fk : Nat) {idx : Nat} {v : Value} {w' : cd_Wd} (hk : fk < q.2.2) (ha : cd_kd w a = 2 * ci + 2) (hn : narrow (ty fk) v = v) (hf : fits (ty fk) v = true)
    (hfin : (q.2.1 fk).2.2.2 = false ∨ ((q.2.1 fk).2.2.2 = true ∧ y.name = "<init>" ∧ (q.2.1 fk).1 = y.cls))
    (hl : Cond.fieldLink y.cls idx (q.2.1 fk).1 (q.2.1 fk).2.1 (q.2.1 fk).2.2.1 ∈ lw_tbl ∧ cd_gw (Cond.fieldLink y.cls idx (q.2.1 fk).1 (q.2.1 fk).2.1 (q.2.1 fk).2.2.1) = true) (hd : decode cc pc = .ok (.putfield idx, 3))
    (hk' : ∀ b, cd_kd w' b = cd_kd w b) (hl' : ∀ b, cd_ln w' b = cd_ln w b) (hI : ∀ t b j, b ≠ a → cd_I w' t b j = cd_I w t b j) (hO : ∀ t b j, b ≠ a → cd_O w' t b j = cd_O w t b j) (hJ : ∀ b j, b ≠ a → cd_J w' b j = cd_J w b j)
    (hv : ∀ j, j < q.2.2 → updV (fun k => cd_fv w ci k a) fk v j = cd_fv w' ci j a)
    (h : cd_Go G l C Q k n w' (pc + 3) lv rest) : cd_Go G l C Q k n w pc lv (v :: .ref a :: rest) := by
  intro H locs ls a1 b1 c1
  have hKK := cd_K O
  have hap := va_apart (own := y.cls) (cd_hts O) hC.in ty hC.2.2.1 hC.2.2.2.1 hKK hC.1
  obtain ⟨cell, q1, q2, q3, q4⟩ := a1.obj ha hC.1
  obtain ⟨hS, hfc, kC, hkC, hkind⟩ := hKK.1 ci _ hC.1
  obtain ⟨cf, kf, fi, f, hi, hsl⟩ := hS fk hk
  have hst := (u_facts hfc hkC (u_lays (cd_hts O) hC.in hk) hi).1
  have hge := a1.ge (a := a) (by omega)
  have fin : ∀ (H' : Heap), H'[a]? = some (cell.setSlot f.slot v) → H'.size = H.size → (∀ z, z ≠ a → H'[z]? = H[z]?) → W (cx_p C) l (cx_e C) (cx_R C) (cx_s C) (cx_m C) (cx_a C) (cx_b C) (cx_h C) (cx_c C) H' (locs ++ [⟨a, f.slot⟩]) k n Q (F0 (cx_m C) (pc + 3) ls rest) := by
    intro H' e1 e2 e3
    refine h H' _ ls (a1.upd e2 e3 (by omega) (fun c hc => ?_) hk' hl' hI hO hJ ⟨fun ci' hc' => ?_, fun i hi => ?_⟩) (t_lc b1 hge) c1
    · rw [e1] at hc
      cases hc
      show cell.vm.isStatics = false
      rw [q3]; rfl
    · rw [hk'] at hc'
      have hcc : ci' = ci := by omega
      subst hcc
      refine ⟨q, hC.1, t_OB.to (V := updV (fun k => cd_fv w ci' k a) fk v) ⟨_, e1, q2, q3, ?_⟩ hv⟩
      rw [hsl]
      exact t_set q4 hap hk v
    · rw [hk'] at hi; omega
  rcases hfin with hfin | ⟨hfin, hinit, hdecl⟩
  · have hlay := cd_hts O _ (hC.in _ (u_in_lay hk))
    unfold u_lay at hlay
    rw [if_neg (by rw [hfin]; decide)] at hlay
    have h6 := u_store hfc hkC hkind hlay hi (hC.2.2.1 fk hk) hn hf
    exact W.putK O.1 O.2.1 (f := f) ⟨O.2.2.2.1, cd_word O hl, ⟨_, _, _, hi⟩, hst⟩ (by rw [q2]; exact h6) q1 q3 (by rw [hsl]; exact k2_hasslot (q4 fk hk)) rfl rfl hd fin
  · have hlay := cd_hts O _ (hC.in _ (u_in_lay hk))
    unfold u_lay at hlay
    rw [if_pos hfin] at hlay
    have hcf : (cx_m C).cls = cf := by
      obtain ⟨_, _, c', _, _, _, -, -, hf', -, -, -, hown2, -⟩ := Cond.laysFinal_spec hlay
      have e1 : c' = cf := by have := hi.symm.trans hf'; simp at this; exact this.1.symm
      rw [hdecl] at hown2
      rw [← e1]; exact Option.some.inj (O.2.2.2.1.symm.trans hown2)
    have h6 := u_fits hfc hkC hkind (Or.inr hlay) hi (hC.2.2.1 fk hk) hn hf
    exact W.putFinK O.1 O.2.1 O.2.2.2.1 (cd_word O hl) hi hst hcf (by rw [O.2.2.2.2.2.2.1]; exact hinit) (by rw [q2]; exact h6) q1 q3 (by rw [hsl]; exact k2_hasslot (q4 fk hk)) rfl rfl hd fin
theorem g_putI (O : cd_Ok G y cc nL ret ex R C) {ci : Nat} {q : vw_C} {ty : Nat → FieldType} (hC : cd_Cl ci q ty) {a : Nat} (fk : Nat) {idx : Nat} {v : Int32} (hk : fk < q.2.2) (hr : cd_rf ci fk = false) (ha : cd_kd w a = 2 * ci + 2) (hn : ty fk = .int ∨ v = 0 ∨ v = 1)
    (hfin : (q.2.1 fk).2.2.2 = false ∨ ((q.2.1 fk).2.2.2 = true ∧ y.name = "<init>" ∧ (q.2.1 fk).1 = y.cls))
    (hl : Cond.fieldLink y.cls idx (q.2.1 fk).1 (q.2.1 fk).2.1 (q.2.1 fk).2.2.1 ∈ lw_tbl ∧ cd_gw (Cond.fieldLink y.cls idx (q.2.1 fk).1 (q.2.1 fk).2.1 (q.2.1 fk).2.2.1) = true) (hd : decode cc pc = .ok (.putfield idx, 3))
    (h : cd_Go G l C Q k n (cd_wI w (32 * ci + fk) a 0 v) (pc + 3) lv rest) : cd_Go G l C Q k n w pc lv (.int v :: .ref a :: rest) := by
  have hty := hC.2.2.2.2.2 fk hk
  rw [hr] at hty
  have h16 := hC.2.2.2.2.1
  refine g_put O hC fk hk ha ?_ ?_ hfin hl hd (kd_wI w _ a 0 v) (ln_wI w _ a 0 v) (fun t b j hb => ?_) (fun _ _ _ _ => rfl) (fun _ _ _ => rfl) (fun j hj => ?_) h
  · cases hz : ty fk <;> rw [hz] at hty <;> first | rfl | (simp [cd_tI] at hty; done) | skip
    rcases hn with h0 | h0 | h0
    · rw [hz] at h0; cases h0
    · subst h0; rfl
    · subst h0; rfl
  · cases hz : ty fk <;> rw [hz] at hty <;> first | rfl | (simp [cd_tI] at hty; done) | skip
    rcases hn with h0 | h0 | h0
    · rw [hz] at h0; cases h0
    · subst h0; rfl
    · subst h0; rfl
  · rw [I_wI, if_neg (fun z => hb z.2.1)]
  · by_cases e : j = fk
    · subst e
      simp [updV, cd_fv, hr, I_wI]
    · have : ¬ (32 * ci + j = 32 * ci + fk) := by omega
      simp [updV, cd_fv, e, I_wI, O_wI]
theorem g_putO (O : cd_Ok G y cc nL ret ex R C) {ci : Nat} {q : vw_C} {ty : Nat → FieldType} (hC : cd_Cl ci q ty) {a : Nat} (fk : Nat) {idx : Nat} {r : Option Nat} (hk : fk < q.2.2) (hr : cd_rf ci fk = true) (ha : cd_kd w a = 2 * ci + 2)
    (hfin : (q.2.1 fk).2.2.2 = false ∨ ((q.2.1 fk).2.2.2 = true ∧ y.name = "<init>" ∧ (q.2.1 fk).1 = y.cls))
    (hl : Cond.fieldLink y.cls idx (q.2.1 fk).1 (q.2.1 fk).2.1 (q.2.1 fk).2.2.1 ∈ lw_tbl ∧ cd_gw (Cond.fieldLink y.cls idx (q.2.1 fk).1 (q.2.1 fk).2.1 (q.2.1 fk).2.2.1) = true) (hd : decode cc pc = .ok (.putfield idx, 3))
    (h : cd_Go G l C Q k n (cd_wO w (32 * ci + fk) a 0 r) (pc + 3) lv rest) : cd_Go G l C Q k n w pc lv (va_rf r :: .ref a :: rest) := by
  have hty := hC.2.2.2.2.2 fk hk
  rw [hr] at hty
  refine g_put O hC fk hk ha ?_ ?_ hfin hl hd (kd_wO w _ a 0 r) (ln_wO w _ a 0 r) (fun _ _ _ _ => rfl) (fun t b j hb => ?_) (fun _ _ _ => rfl) (fun j hj => ?_) h
  · cases hz : ty fk <;> rw [hz] at hty <;> cases r <;> first | rfl | (simp [cd_tR] at hty; done)
  · cases hz : ty fk <;> rw [hz] at hty <;> cases r <;> first | rfl | (simp [cd_tR] at hty; done)
  · rw [O_wO, if_neg (fun z => hb z.2.1)]
  · by_cases e : j = fk
    · subst e
      simp [updV, cd_fv, hr, O_wO]
    · have : ¬ (32 * ci + j = 32 * ci + fk) := by omega
      simp [updV, cd_fv, e, I_wO, O_wO]
theorem g_putS (O : cd_Ok G y cc nL ret ex R C) {ci : Nat} {q : vw_C} {ty : Nat → FieldType} (hC : cd_Cl ci q ty) {a b : Nat} (fk : Nat) {idx : Nat} (hk : fk < q.2.2) (hr : cd_rf ci fk = true) (ha : cd_kd w a = 2 * ci + 2)
    (hfin : (q.2.1 fk).2.2.2 = false ∨ ((q.2.1 fk).2.2.2 = true ∧ y.name = "<init>" ∧ (q.2.1 fk).1 = y.cls))
    (hl : Cond.fieldLink y.cls idx (q.2.1 fk).1 (q.2.1 fk).2.1 (q.2.1 fk).2.2.1 ∈ lw_tbl ∧ cd_gw (Cond.fieldLink y.cls idx (q.2.1 fk).1 (q.2.1 fk).2.1 (q.2.1 fk).2.2.1) = true) (hd : decode cc pc = .ok (.putfield idx, 3))
    (h : cd_Go G l C Q k n (cd_wO w (32 * ci + fk) a 0 (some b)) (pc + 3) lv rest) : cd_Go G l C Q k n w pc lv (.ref b :: .ref a :: rest) :=
  g_putO (r := some b) O hC fk hk hr ha hfin hl hd h
theorem g_new (O : cd_Ok G y cc nL ret ex R C) {ci : Nat} {q : vw_C} {ty : Nat → FieldType} (hC : cd_Cl ci q ty) {idx : Nat} (hl : Cond.classLink y.cls idx q.1 ∈ lw_tbl ∧ cd_gw (Cond.classLink y.cls idx q.1) = true) (hi : Cond.instantiable q.1 q.2.2 ∈ lw_tbl ∧ cd_gw (Cond.instantiable q.1 q.2.2) = true) (hini : Cond.initialized q.1 ∈ lw_tbl ∧ cd_gw (Cond.initialized q.1) = true)
    (hd : decode cc pc = .ok (.new idx, 3)) (h1 : k + 1 ≤ R.cells) (h2 : n + q.2.2 ≤ R.slots) (h : ∀ b, cd_kd w b = 0 → cd_Go G l C Q (k + 1) (n + q.2.2) (cd_wN w b (2 * ci + 2) 0) (pc + 3) lv (.ref b :: rest)) : cd_Go G l C Q k n w pc lv rest := by
  intro H locs ls a1 b1 c1
  have hKn := (cd_K O).1 ci _ hC.1
  have hR := O.2.2.2.2.2.2.2.2.2.1
  refine W.newcK O.1 O.2.1 O.2.2.2.1 (cd_word O hl) (cd_word O hi) (cd_word O hini) rfl hd (by rw [hR]; exact h1) (by rw [hR]; exact h2) hKn.2.1 rfl fun H1 kC hkC e1 z1 o1 => ?_
  have h0 : cd_kd w H.size = 0 := by
    by_cases hz : cd_kd w H.size = 0
    · exact hz
    · exact absurd (a1.lt hz) (Nat.lt_irrefl _)
  refine h H.size h0 H1 locs ls (a1.push z1 o1 (fun c hc => by rw [e1] at hc; cases hc; rfl) ⟨fun ci' hc => ?_, fun i hi => ?_⟩) b1 c1
  · rw [kd_wN, if_pos rfl] at hc
    have hcc : ci' = ci := by omega
    subst hcc
    refine ⟨q, hC.1, (u_born ty (cd_hts O) hC.in hKn hkC e1 hC.2.2.1).to fun j hj => ?_⟩
    have hty := hC.2.2.2.2.2 j hj
    rw [cd_fv, I_wN, O_wN, if_pos rfl, if_pos rfl]
    cases hz : ty j <;> rw [hz] at hty <;> cases hrf : cd_rf ci' j <;> rw [hrf] at hty <;> first | rfl | (simp [cd_tI, cd_tR] at hty; done)
  · rw [kd_wN, if_pos rfl] at hi; omega
/-! ### arrays -/
theorem cd_ArT (O : cd_Ok G y cc nL ret ex R C) {i : Nat} {t : FieldType} (ht : cd_ty[i]? = some t) : ArrOfT (cx_s C) (G.2.1 i) t ∧ va_RA (cx_s C) (G.2.1 i) t := by
  obtain ⟨z, hz⟩ := cd_tys_get (G := G) ht
  exact (cd_K O).2 z _ hz
theorem g_alen (O : cd_Ok G y cc nL ret ex R C) {i a : Nat} {t : FieldType} (ht : cd_ty[i]? = some t) (ha : cd_kd w a = 2 * i + 1) (hd : decode cc pc = .ok (.arraylength, 1)) {v : Int32} (hv : (cd_ln w a).toInt32 = v)
    (h : cd_Go G l C Q k n w (pc + 1) lv (.int v :: rest)) : cd_Go G l C Q k n w pc lv (.ref a :: rest) := by
  intro H locs ls a1 b1 c1
  exact W.alen O.1 O.2.1 (a1.arr ha) ((cd_ArT O ht).1 _ _) (by rw [arrV_size]; exact hv) rfl rfl hd (h H locs ls a1 b1 c1)
theorem g_iald (O : cd_Ok G y cc nL ret ex R C) {a : Nat} (i : Nat) {x : Int32} (ht : cd_ty[i]? = some .int) (hk : cd_tk i = 0) (ha : cd_kd w a = 2 * i + 1) (hin : vp_in x (cd_ln w a)) (hd : decode cc pc = .ok (.iaload, 1))
    (h : cd_Go G l C Q k n w (pc + 1) lv (.int (cd_I w (1000 + i) a x.toNatClampNeg) :: rest)) : cd_Go G l C Q k n w pc lv (.int x :: .ref a :: rest) := by
  intro H locs ls a1 b1 c1
  have hlt : x.toNatClampNeg < cd_ln w a := Nat.not_le.mp fun q => hin (Or.inr q)
  exact W.iald (v := .int (cd_I w (1000 + i) a x.toNatClampNeg)) O.1 O.2.1 (a1.arr ha) ((cd_ArT O ht).1 _ _) (fun q => by cases q) (by rw [arrV_size]; exact hin) (by rw [arrV_read _ _ hlt]; simp [cd_av, hk]) rfl rfl hd (h H locs ls a1 b1 c1)
theorem g_zald (O : cd_Ok G y cc nL ret ex R C) {a : Nat} (i : Nat) {x : Int32} (ht : cd_ty[i]? = some .boolean) (hk : cd_tk i = 0) (ha : cd_kd w a = 2 * i + 1) (hin : vp_in x (cd_ln w a)) (hd : decode cc pc = .ok (.baload, 1))
    (h : cd_Go G l C Q k n w (pc + 1) lv (.int (cd_I w (1000 + i) a x.toNatClampNeg) :: rest)) : cd_Go G l C Q k n w pc lv (.int x :: .ref a :: rest) := by
  intro H locs ls a1 b1 c1
  have hlt : x.toNatClampNeg < cd_ln w a := Nat.not_le.mp fun q => hin (Or.inr q)
  exact W.zald (v := .int (cd_I w (1000 + i) a x.toNatClampNeg)) O.1 O.2.1 (a1.arr ha) ((cd_ArT O ht).1 _ _) (fun q => by cases q) (by rw [arrV_size]; exact hin) (by rw [arrV_read _ _ hlt]; simp [cd_av, hk]) rfl rfl hd (h H locs ls a1 b1 c1)
theorem g_lald (O : cd_Ok G y cc nL ret ex R C) {a : Nat} (i : Nat) {x : Int32} (ht : cd_ty[i]? = some .long) (hk : cd_tk i = 2) (ha : cd_kd w a = 2 * i + 1) (hin : vp_in x (cd_ln w a)) (hd : decode cc pc = .ok (.laload, 1))
    (h : cd_Go G l C Q k n w (pc + 1) lv (.long (cd_J w a x.toNatClampNeg) :: rest)) : cd_Go G l C Q k n w pc lv (.int x :: .ref a :: rest) := by
  intro H locs ls a1 b1 c1
  have hlt : x.toNatClampNeg < cd_ln w a := Nat.not_le.mp fun q => hin (Or.inr q)
  exact W.lald (v := .long (cd_J w a x.toNatClampNeg)) O.1 O.2.1 (a1.arr ha) ((cd_ArT O ht).1 _ _) (fun q => by cases q) (by rw [arrV_size]; exact hin) (by rw [arrV_read _ _ hlt]; simp [cd_av, hk]) rfl rfl hd (h H locs ls a1 b1 c1)
theorem g_aald (O : cd_Ok G y cc nL ret ex R C) {a : Nat} (i : Nat) {x : Int32} {D : String} (ht : cd_ty[i]? = some (.object D)) (hk : cd_tk i = 1) (ha : cd_kd w a = 2 * i + 1) (hin : vp_in x (cd_ln w a)) (hd : decode cc pc = .ok (.aaload, 1))
    (h : cd_Go G l C Q k n w (pc + 1) lv (va_rf (cd_O w (1000 + i) a x.toNatClampNeg) :: rest)) : cd_Go G l C Q k n w pc lv (.int x :: .ref a :: rest) := by
  intro H locs ls a1 b1 c1
  have hlt : x.toNatClampNeg < cd_ln w a := Nat.not_le.mp fun q => hin (Or.inr q)
  exact W.aald (v := va_rf (cd_O w (1000 + i) a x.toNatClampNeg)) (ty := .object D) O.1 O.2.1 (a1.arr ha) ((cd_ArT O ht).1 _ _) rfl (fun q => by cases q) (by rw [arrV_size]; exact hin) (by rw [arrV_read _ _ hlt]; simp [cd_av, hk]) rfl rfl hd (h H locs ls a1 b1 c1)
theorem g_aaldS (O : cd_Ok G y cc nL ret ex R C) {a b : Nat} (i : Nat) {x : Int32} {D : String} (ht : cd_ty[i]? = some (.object D)) (hk : cd_tk i = 1) (ha : cd_kd w a = 2 * i + 1) (hin : vp_in x (cd_ln w a)) (hd : decode cc pc = .ok (.aaload, 1)) (hb : cd_O w (1000 + i) a x.toNatClampNeg = some b)
    (h : cd_Go G l C Q k n w (pc + 1) lv (.ref b :: rest)) : cd_Go G l C Q k n w pc lv (.int x :: .ref a :: rest) :=
  g_aald O i ht hk ha hin hd (by rw [hb]; exact h)
/-- a place of an array of ours is written: what stays -/
theorem cd_ast {G : cd_Gl} {w w' : cd_Wd} {H H' : Heap} {a i j : Nat} {v : Value} (a1 : cd_Hp G w H) (ha : cd_kd w a = 2 * i + 1) (e1 : H'[a]? = some ((arrV (G.2.1 i) (cd_ln w a) (fun j => cd_av w i a j)).setSlot j v)) (e2 : H'.size = H.size) (e3 : ∀ q, q ≠ a → H'[q]? = H[q]?)
    (hk' : ∀ b, cd_kd w' b = cd_kd w b) (hl' : ∀ b, cd_ln w' b = cd_ln w b) (hI : ∀ t b j, b ≠ a → cd_I w' t b j = cd_I w t b j) (hO : ∀ t b j, b ≠ a → cd_O w' t b j = cd_O w t b j) (hJ : ∀ b j, b ≠ a → cd_J w' b j = cd_J w b j)
    (hv : ∀ z, updV (fun j => cd_av w i a j) j v z = cd_av w' i a z) : cd_Hp G w' H' := by
  refine a1.upd e2 e3 (by omega) (fun c hc => ?_) hk' hl' hI hO hJ ⟨fun ci hc => ?_, fun i' hi => ?_⟩
  · rw [e1] at hc
    cases hc
    rfl
  · rw [hk'] at hc; omega
  · rw [hk'] at hi
    have hii : i' = i := by omega
    subst hii
    rw [e1, arrV_store, hl']
    congr 2
    funext z
    exact hv z
theorem g_iast (O : cd_Ok G y cc nL ret ex R C) {a : Nat} (i : Nat) {x v : Int32} (ht : cd_ty[i]? = some .int) (hk : cd_tk i = 0) (ha : cd_kd w a = 2 * i + 1) (hin : vp_in x (cd_ln w a)) (hd : decode cc pc = .ok (.iastore, 1))
    (h : cd_Go G l C Q k n (cd_wI w (1000 + i) a x.toNatClampNeg v) (pc + 1) lv rest) : cd_Go G l C Q k n w pc lv (.int v :: .int x :: .ref a :: rest) := by
  intro H locs ls a1 b1 c1
  refine W.iast O.1 O.2.1 (a1.arr ha) ((cd_ArT O ht).1 _ _) (fun q => by cases q) (by rw [arrV_size]; exact hin) rfl rfl hd fun H' e1 e2 e3 => ?_
  refine h H' _ ls (cd_ast a1 ha e1 e2 e3 (kd_wI w _ a _ v) (ln_wI w _ a _ v) (fun t b j hb => by rw [I_wI, if_neg (fun z => hb z.2.1)]) (fun _ _ _ _ => rfl) (fun _ _ _ => rfl) fun z => ?_) (t_lc b1 (a1.ge (by omega))) c1
  simp only [updV, cd_av, hk, I_wI]
  by_cases e : z = x.toNatClampNeg <;> simp [e]
theorem g_zast (O : cd_Ok G y cc nL ret ex R C) {a : Nat} (i : Nat) {x v : Int32} (ht : cd_ty[i]? = some .boolean) (hk : cd_tk i = 0) (ha : cd_kd w a = 2 * i + 1) (hin : vp_in x (cd_ln w a)) (hv : v = 0 ∨ v = 1) (hd : decode cc pc = .ok (.bastore, 1))
    (h : cd_Go G l C Q k n (cd_wI w (1000 + i) a x.toNatClampNeg v) (pc + 1) lv rest) : cd_Go G l C Q k n w pc lv (.int v :: .int x :: .ref a :: rest) := by
  intro H locs ls a1 b1 c1
  have hnv : narrow .boolean (.int v) = .int v := by rcases hv with rfl | rfl <;> rfl
  refine W.zast O.1 O.2.1 (a1.arr ha) ((cd_ArT O ht).1 _ _) (fun q => by cases q) (by rw [arrV_size]; exact hin) rfl rfl hd fun H' e1 e2 e3 => ?_
  rw [hnv] at e1
  refine h H' _ ls (cd_ast a1 ha e1 e2 e3 (kd_wI w _ a _ v) (ln_wI w _ a _ v) (fun t b j hb => by rw [I_wI, if_neg (fun z => hb z.2.1)]) (fun _ _ _ _ => rfl) (fun _ _ _ => rfl) fun z => ?_) (t_lc b1 (a1.ge (by omega))) c1
  simp only [updV, cd_av, hk, I_wI]
  by_cases e : z = x.toNatClampNeg <;> simp [e]
theorem g_last (O : cd_Ok G y cc nL ret ex R C) {a : Nat} (i : Nat) {x : Int32} {v : Int64} (ht : cd_ty[i]? = some .long) (hk : cd_tk i = 2) (ha : cd_kd w a = 2 * i + 1) (hin : vp_in x (cd_ln w a)) (hd : decode cc pc = .ok (.lastore, 1))
    (h : cd_Go G l C Q k n (cd_wJ w a x.toNatClampNeg v) (pc + 1) lv rest) : cd_Go G l C Q k n w pc lv (.long v :: .int x :: .ref a :: rest) := by
  intro H locs ls a1 b1 c1
  refine W.last O.1 O.2.1 (a1.arr ha) ((cd_ArT O ht).1 _ _) (fun q => by cases q) (by rw [arrV_size]; exact hin) rfl rfl hd fun H' e1 e2 e3 => ?_
  refine h H' _ ls (cd_ast a1 ha e1 e2 e3 (kd_wJ w a _ v) (ln_wJ w a _ v) (fun _ _ _ _ => rfl) (fun _ _ _ _ => rfl) (fun b j hb => by rw [J_wJ, if_neg (fun z => hb z.1)]) fun z => ?_) (t_lc b1 (a1.ge (by omega))) c1
  simp only [updV, cd_av, hk, J_wJ]
  by_cases e : z = x.toNatClampNeg <;> simp [e]
theorem g_aast (O : cd_Ok G y cc nL ret ex R C) {a b : Nat} (i ci : Nat) {x : Int32} {q : vw_C} (ht : cd_ty[i]? = some (.object q.1)) (hk : cd_tk i = 1) (hc : cd_cls[ci]? = some q) (ha : cd_kd w a = 2 * i + 1) (hb : cd_kd w b = 2 * ci + 2) (hin : vp_in x (cd_ln w a)) (hd : decode cc pc = .ok (.aastore, 1))
    (h : cd_Go G l C Q k n (cd_wO w (1000 + i) a x.toNatClampNeg (some b)) (pc + 1) lv rest) : cd_Go G l C Q k n w pc lv (.ref b :: .int x :: .ref a :: rest) := by
  intro H locs ls a1 b1 c1
  have hlt : x.toNatClampNeg < cd_ln w a := Nat.not_le.mp fun q => hin (Or.inr q)
  have h0 : ¬ x < 0 := fun q => hin (Or.inl q)
  obtain ⟨cellV, g1, g2, g3, -⟩ := a1.obj hb hc
  have hcls := ((cd_K O).1 ci _ hc).2
  obtain ⟨kA, comp, k1, k2, k3, -⟩ := (cd_ArT O ht).2
  have hcomp : comp = G.1.1 ci := Option.some.inj (k3.symm.trans hcls.1)
  subst hcomp
  obtain ⟨kC, hkC, -⟩ := hcls.2
  refine W.aast O.1 O.2.1 (a1.arr ha) (fun q h => by cases h) (fun h => by cases h) k1 k2 rfl hkC ⟨h0, by rw [arrV_size]; exact hlt⟩ g1 (fun q h => by rw [g3] at h; cases h) (by rw [g2]; exact hkC) (by rw [g2]; exact va_assign hcls) rfl rfl hd fun H' e1 e2 e3 => ?_
  refine h H' _ ls (cd_ast a1 ha e1 e2 e3 (kd_wO w _ a _ (some b)) (ln_wO w _ a _ (some b)) (fun _ _ _ _ => rfl) (fun t b j hb => by rw [O_wO, if_neg (fun z => hb z.2.1)]) (fun _ _ _ => rfl) fun z => ?_) (t_lc b1 (a1.ge (by omega))) c1
  simp only [updV, cd_av, hk, O_wO]
  by_cases e : z = x.toNatClampNeg <;> simp [e, va_rf]
theorem g_aastN (O : cd_Ok G y cc nL ret ex R C) {a : Nat} (i : Nat) {x : Int32} {D : String} (ht : cd_ty[i]? = some (.object D)) (hk : cd_tk i = 1) (ha : cd_kd w a = 2 * i + 1) (hin : vp_in x (cd_ln w a)) (hd : decode cc pc = .ok (.aastore, 1))
    (h : cd_Go G l C Q k n (cd_wO w (1000 + i) a x.toNatClampNeg none) (pc + 1) lv rest) : cd_Go G l C Q k n w pc lv (va_rf none :: .int x :: .ref a :: rest) := by
  intro H locs ls a1 b1 c1
  refine va_WaastN (C := D) O.1 O.2.1 (a1.arr ha) ((cd_ArT O ht).1 _ _) (fun h => by cases h) (by rw [arrV_size]; exact hin) rfl rfl hd fun H' e1 e2 e3 => ?_
  refine h H' _ ls (cd_ast a1 ha e1 e2 e3 (kd_wO w _ a _ none) (ln_wO w _ a _ none) (fun _ _ _ _ => rfl) (fun t b j hb => by rw [O_wO, if_neg (fun z => hb z.2.1)]) (fun _ _ _ => rfl) fun z => ?_) (t_lc b1 (a1.ge (by omega))) c1
  simp only [updV, cd_av, hk, O_wO]
  by_cases e : z = x.toNatClampNeg <;> simp [e, va_rf]
/-- a reference that may be null goes into an array -/
theorem g_aastq (O : cd_Ok G y cc nL ret ex R C) {a : Nat} {r : Option Nat} (i ci : Nat) {x : Int32} {q : vw_C} (ht : cd_ty[i]? = some (.object q.1)) (hk : cd_tk i = 1) (hc : cd_cls[ci]? = some q) (ha : cd_kd w a = 2 * i + 1) (hb : ∀ b, r = some b → cd_kd w b = 2 * ci + 2) (hin : vp_in x (cd_ln w a)) (hd : decode cc pc = .ok (.aastore, 1))
    (h : cd_Go G l C Q k n (cd_wO w (1000 + i) a x.toNatClampNeg r) (pc + 1) lv rest) : cd_Go G l C Q k n w pc lv (va_rf r :: .int x :: .ref a :: rest) := by
  cases r with
  | none => exact g_aastN O i ht hk ha hin hd h
  | some b => exact g_aast O i ci ht hk hc ha (hb b rfl) hin hd h
theorem g_newa (O : cd_Ok G y cc nL ret ex R C) (i : Nat) {at' : ArrayType} {t : FieldType} {x : Int32} {N : Nat} (hat : newarray.typeOf at' = t) (ht : cd_ty[i]? = some t) (hkk : (cd_tk i = 0 ∧ defaultValue t = .int 0) ∨ (cd_tk i = 2 ∧ defaultValue t = .long 0)) (hd : decode cc pc = .ok (.newarray at', 2)) (hx : ¬ x < 0) (hN : x.toNatClampNeg = N) (hby : N * componentBytes t ≤ 536870912) (h1 : k + 1 ≤ R.cells) (h2 : n + N ≤ R.slots)
    (h : ∀ b, cd_kd w b = 0 → cd_Go G l C Q (k + 1) (n + N) (cd_wN w b (2 * i + 1) N) (pc + 2) lv (.ref b :: rest)) : cd_Go G l C Q k n w pc lv (.int x :: rest) := by
  subst hat
  intro H locs ls a1 b1 c1
  have hR := O.2.2.2.2.2.2.2.2.2.1
  have hac : (Cond.arrayClass (newarray.typeOf at')).before (cx_a C) (cx_s C) = true := by
    have h3 := O.2.2.2.2.2.2.2.1.2.2.1 i _ ht
    cases at' <;> exact h3
  have hcA : (cx_s C).vm.findClass ("[" ++ (newarray.typeOf at').toString) = some (G.2.1 i) := by
    have h3 := (cd_ArT O ht).2
    cases at' <;> exact h3
  refine va_newaK O.1 O.2.1 hac rfl hd rfl hx hN hby (by rw [hR]; exact h1) (by rw [hR]; exact h2) rfl fun H1 cA e1 z1 o1 _ hNm => ?_
  cases Option.some.inj (hNm.symm.trans hcA)
  have h0 : cd_kd w H.size = 0 := by
    by_cases hz : cd_kd w H.size = 0
    · exact hz
    · exact absurd (a1.lt hz) (Nat.lt_irrefl _)
  refine h H.size h0 H1 locs ls (a1.push z1 o1 (fun c hc => by rw [e1] at hc; cases hc; rfl) ⟨fun ci hc => ?_, fun i' hi => ?_⟩) b1 c1
  · rw [kd_wN, if_pos rfl] at hc; omega
  · rw [kd_wN, if_pos rfl] at hi
    have hii : i' = i := by omega
    subst hii
    rw [e1, ln_wN, if_pos rfl]
    congr 2
    funext j
    rcases hkk with ⟨hk0, hdv⟩ | ⟨hk0, hdv⟩ <;> rw [hdv] <;> simp [cd_av, hk0, I_wN, J_wN]
theorem g_anew (O : cd_Ok G y cc nL ret ex R C) (i : Nat) {D : String} {idx : Nat} {x : Int32} {N : Nat} (ht : cd_ty[i]? = some (.object D)) (hkk : cd_tk i = 1) (hl : Cond.classLink y.cls idx D ∈ lw_tbl ∧ cd_gw (Cond.classLink y.cls idx D) = true) (hd : decode cc pc = .ok (.anewarray idx, 3)) (hx : ¬ x < 0) (hN : x.toNatClampNeg = N) (hby : N * 4 ≤ 536870912) (h1 : k + 1 ≤ R.cells) (h2 : n + N ≤ R.slots)
    (h : ∀ b, cd_kd w b = 0 → cd_Go G l C Q (k + 1) (n + N) (cd_wN w b (2 * i + 1) N) (pc + 3) lv (.ref b :: rest)) : cd_Go G l C Q k n w pc lv (.int x :: rest) := by
  subst hN
  intro H locs ls a1 b1 c1
  have hR := O.2.2.2.2.2.2.2.2.2.1
  have hov : va_AO D (cx_s C) := O.2.2.2.2.2.2.2.1.2.2.1 i _ ht
  obtain ⟨kA, comp, k1, k2, k3, k4⟩ := (cd_ArT O ht).2
  refine W.anew O.1 O.2.1 O.2.2.2.1 (cd_word O hl) (va_AO.use hov) rfl hd rfl hx hby (by rw [hR]; exact h1) (by rw [hR]; exact h2) fun cA kA' comp' f1 f2 f3 f4 => ?_
  cases Option.some.inj (f1.symm.trans k4)
  generalize hH1 : H.push ({ cls := G.2.1 i, slots := Array.replicate x.toNatClampNeg .null, vm := .none } : Cell) = H1
  have z1 : H1.size = H.size + 1 := by rw [← hH1, Array.size_push]
  have e1 : H1[H.size]? = some (arrV (G.2.1 i) x.toNatClampNeg (fun _ => .null)) := by rw [← hH1, Array.getElem?_push_size, ← arrV_new]
  have o1 : ∀ q : Nat, q < H.size → H1[q]? = H[q]? := fun q hq => by rw [← hH1, Array.getElem?_push, if_neg (Nat.ne_of_lt hq)]
  have h0 : cd_kd w H.size = 0 := by
    by_cases hz : cd_kd w H.size = 0
    · exact hz
    · exact absurd (a1.lt hz) (Nat.lt_irrefl _)
  refine h H.size h0 H1 locs ls (a1.push z1 o1 (fun c hc => by rw [e1] at hc; cases hc; rfl) ⟨fun ci hc => ?_, fun i' hi => ?_⟩) b1 c1
  · rw [kd_wN, if_pos rfl] at hc; omega
  · rw [kd_wN, if_pos rfl] at hi
    have hii : i' = i := by omega
    subst hii
    rw [e1, ln_wN, if_pos rfl]
    congr 2
    funext j
    simp [cd_av, hkk, O_wN, va_rf]
/-- the script -/
theorem g_sld (O : cd_Ok G y cc nL ret ex R C) {b L : Nat} {xs : Nat → Int32} {x : Int32} (hX : va_X b L xs (cx_s C) G.2.2) (hb : b < G.2.2.size) (hin : vp_in x L) (hd : decode cc pc = .ok (.iaload, 1))
    (h : cd_Go G l C Q k n w (pc + 1) lv (.int (xs x.toNatClampNeg) :: rest)) : cd_Go G l C Q k n w pc lv (.int x :: .ref b :: rest) := by
  intro H locs ls a1 b1 c1
  obtain ⟨scr, h1, h2, h3, h4, h5⟩ := hX
  have hlt : x.toNatClampNeg < L := Nat.not_le.mp fun q => hin (Or.inr q)
  exact W.iald (v := .int (xs x.toNatClampNeg)) O.1 O.2.1 (by rw [a1.2.1 b hb]; exact h1) h2 h3 (by rw [h4]; exact hin) (h5 _ hlt) rfl rfl hd (h H locs ls a1 b1 c1)
theorem g_slen (O : cd_Ok G y cc nL ret ex R C) {b L : Nat} {xs : Nat → Int32} (hX : va_X b L xs (cx_s C) G.2.2) (hb : b < G.2.2.size) (hd : decode cc pc = .ok (.arraylength, 1))
    (h : cd_Go G l C Q k n w (pc + 1) lv (.int (nI L) :: rest)) : cd_Go G l C Q k n w pc lv (.ref b :: rest) := by
  intro H locs ls a1 b1 c1
  obtain ⟨scr, h1, h2, h3, h4, h5⟩ := hX
  exact W.alen O.1 O.2.1 (by rw [a1.2.1 b hb]; exact h1) h2 (by rw [h4]; rfl) rfl rfl hd (h H locs ls a1 b1 c1)
theorem g_lcmp (O : cd_Ok G y cc nL ret ex R C) {x z : Int64} (hd : decode cc pc = .ok (.lcmp, 1)) (h : cd_Go G l C Q k n w (pc + 1) lv (.int (lg_cmp x z) :: rest)) : cd_Go G l C Q k n w pc lv (.long z :: .long x :: rest) :=
  fun H locs ls a b c => W.lcmp O.1 O.2.1 hd (h H locs ls a b c)
end Rows
end
section
/-! ===== CONTRACTS: a method, called with these arguments in this world, ends so =====
what comes out: .inl v it returned v; .inr E it threw an exception of the class cd_ex E -/
abbrev cd_Out : Type := Option Value ⊕ Nat
def cd_rm (N mc ms : Nat) : Room := { frames := N, cells := mc, slots := ms, locals := 64 * N }
def cd_OQ (G : cd_Gl) (s : State) (Q : cd_Out → cd_Wd → Prop) (o : Outcome) (t : State) : Prop := match o with
  | .returned v => ∃ w, cd_Hp G w t.heap ∧ Q (.inl v) w
  | .threw x => ∃ (w : cd_Wd) (E : Nat) (ce : Cell), cd_Hp G w t.heap ∧ t.heap[x]? = some ce ∧ ce.vm = .none ∧ G.2.2.size ≤ x ∧ s.vm.findClass (cd_ex E) = some ce.cls ∧ Q (.inr E) w
def cd_MQ (G : cd_Gl) (s : State) (below : List Frame) (mc ms : Nat) (Q : cd_Out → cd_Wd → Prop) : State → Prop := fun t =>
  ∃ (o : Outcome) (L : List Loc), t.status = .running ∧ Ended t below o ∧ s.WarmedH t.vm ∧ s.sameButNew ({ t with vm := s.vm } : State) L mc ms ∧ (∀ q ∈ L, G.2.2.size ≤ q.base) ∧ cd_OQ G s Q o t
def cd_Ct (G : cd_Gl) (l : Launch) (y : MethodName) (N mc ms : Nat) (av : List Value) (w : cd_Wd) (Q : cd_Out → cd_Wd → Prop) : Prop :=
  ∀ (p : Program) (e : Env) (s : State) (m : MethodId) (below : List Frame) (meth : Method) (c : Code) (T : State), p.tables.exec = Jvm.exec → s.methodNamed? y = some m → cd_Tb G s → s.heap = T.heap → cd_Hp G w T.heap →
    Stand p l e (cd_rm N mc ms) s m av.toArray below meth c T [] 0 0 → ∃ t, Steps p.tables e below (T.setTop (entryFrame m av.toArray c.maxLocals)) t ∧ cd_MQ G s below mc ms Q t
/-- a contract out of the walk of the body -/
theorem cd_ofW {G : cd_Gl} {l : Launch} {y : MethodName} {cc : ByteArray} {nL : Nat} {ret : Option FieldType} {N mc ms : Nat} {av : List Value} {w : cd_Wd} {Q : cd_Out → cd_Wd → Prop}
    (hc : Cond.code y cc nL ret ∈ lw_tbl ∧ cd_gw (Cond.code y cc nL ret) = true) (h1 : ∀ v ∈ av, v.category = 1) (hn : av.length ≤ nL)
    (h : ∀ C : cd_Cx, cd_Ok G y cc nL ret [] (cd_rm N mc ms) C → cd_Go G l C (cd_MQ G (cx_s C) (cx_b C) mc ms Q) 0 0 w 0 (av.map some ++ List.replicate (nL - av.length) none) []) : cd_Ct G l y N mc ms av w Q := by
  intro p e s m below meth c T hx hnm hT hsT hH X
  obtain ⟨meth', c', e1, e2, e3, e4, e5, e6, e7, -⟩ := Cond.code_spec hnm (hT.1 _ hc.1 hc.2 #[])
  cases Option.some.inj (e1.symm.trans X.method)
  cases Option.some.inj (e2.symm.trans X.code)
  have hlo := cd_Lo.entry (n := nL) h1 hn
  have hO : cd_Ok G y cc nL ret [] (cd_rm N mc ms) (p, e, cd_rm N mc ms, s, m, av.toArray, below, meth, c) :=
    ⟨hx, e3, e4, findClass_of_methodNamed hnm, e5, e6, (name_of_methodNamed hnm X.method).1, hT, by rw [Array.isEmpty_iff.mp e7]; rfl, rfl, by rw [hsT]; exact hH.h0⟩
  have hw := h _ hO T.heap [] _ hH (fun x hx => by cases hx) hlo
  rw [e4, lg_entry_eq]
  exact hw T rfl X
theorem cd_ofWX {G : cd_Gl} {l : Launch} {y : MethodName} {cc : ByteArray} {nL : Nat} {ret : Option FieldType} {ex : List (Nat × Nat × Nat × Nat)} {N mc ms : Nat} {av : List Value} {w : cd_Wd} {Q : cd_Out → cd_Wd → Prop}
    (hc : Cond.codeWith y cc nL ret ex ∈ lw_tbl ∧ cd_gw (Cond.codeWith y cc nL ret ex) = true) (h1 : ∀ v ∈ av, v.category = 1) (hn : av.length ≤ nL)
    (h : ∀ C : cd_Cx, cd_Ok G y cc nL ret ex (cd_rm N mc ms) C → cd_Go G l C (cd_MQ G (cx_s C) (cx_b C) mc ms Q) 0 0 w 0 (av.map some ++ List.replicate (nL - av.length) none) []) : cd_Ct G l y N mc ms av w Q := by
  intro p e s m below meth c T hx hnm hT hsT hH X
  obtain ⟨m', meth', c', e0, e1, e2, e3, e4, e7, e5, e6, -⟩ := Cond.codeWith_spec (hT.1 _ hc.1 hc.2 #[])
  cases Option.some.inj (e0.symm.trans hnm)
  cases Option.some.inj (e1.symm.trans X.method)
  cases Option.some.inj (e2.symm.trans X.code)
  have hlo := cd_Lo.entry (n := nL) h1 hn
  have hO : cd_Ok G y cc nL ret ex (cd_rm N mc ms) (p, e, cd_rm N mc ms, s, m, av.toArray, below, meth, c) :=
    ⟨hx, e3, e4, findClass_of_methodNamed hnm, e5, e6, (name_of_methodNamed hnm X.method).1, hT, e7, rfl, by rw [hsT]; exact hH.h0⟩
  have hw := h _ hO T.heap [] _ hH (fun x hx => by cases hx) hlo
  rw [e4, lg_entry_eq]
  exact hw T rfl X
theorem cd_Ct.mono {G : cd_Gl} {l : Launch} {y : MethodName} {N mc ms : Nat} {av : List Value} {w : cd_Wd} {Q Q' : cd_Out → cd_Wd → Prop} (h : cd_Ct G l y N mc ms av w Q) (hq : ∀ o w', Q o w' → Q' o w') : cd_Ct G l y N mc ms av w Q' := by
  intro p e s m below meth c T hx hnm hT hsT hH X
  obtain ⟨t, st, o, L, a1, a2, a3, a4, a5, a6⟩ := h p e s m below meth c T hx hnm hT hsT hH X
  refine ⟨t, st, o, L, a1, a2, a3, a4, a5, ?_⟩
  cases o with
  | returned v =>
    obtain ⟨w', b1, b2⟩ := a6
    exact ⟨w', b1, hq _ _ b2⟩
  | threw x =>
    obtain ⟨w', E, ce, b1, b2, b3, b4, b5, b6⟩ := a6
    exact ⟨w', E, ce, b1, b2, b3, b4, b5, hq _ _ b6⟩
section Calls9
variable {p : Program} {l : Launch} {e : Env} {R : Room} {s : State} {m : MethodId} {args : Array Value} {below : List Frame} {meth : Method} {c : Code} {T : State} {locs : List Loc} {cells slots : Nat}
/-- what a method's code word says of the method, whichever of the two it is -/
def cd_Cd (y : MethodName) (nL : Nat) : Prop := (∃ (cc : ByteArray) (ret : Option FieldType), Cond.code y cc nL ret ∈ lw_tbl ∧ cd_gw (Cond.code y cc nL ret) = true) ∨ ∃ (cc : ByteArray) (ret : Option FieldType) (ex : List (Nat × Nat × Nat × Nat)), Cond.codeWith y cc nL ret ex ∈ lw_tbl ∧ cd_gw (Cond.codeWith y cc nL ret ex) = true
theorem cd_Cd.of {G : cd_Gl} {y : MethodName} {nL : Nat} (h : cd_Cd y nL) {s : State} (hT : cd_Tb G s) : ∃ m meth c, s.methodNamed? y = some m ∧ s.vm.method? m = some meth ∧ meth.code = some c ∧ c.maxLocals = nL ∧ meth.locks = false ∧ parseMethodDescriptor y.desc = some meth.sig := by
  rcases h with ⟨cc, ret, hc⟩ | ⟨cc, ret, ex, hc⟩
  · have hw := hT.1 _ hc.1 hc.2 #[]
    obtain ⟨m, hm⟩ := Cond.code_named hw
    obtain ⟨meth, c, e1, e2, e3, e4, e5, e6, e7, e8⟩ := Cond.code_spec hm hw
    exact ⟨m, meth, c, hm, e1, e2, e4, e6, e8⟩
  · obtain ⟨m, meth, c, e0, e1, e2, e3, e4, e7, e5, e6, e8⟩ := Cond.codeWith_spec (hT.1 _ hc.1 hc.2 #[])
    exact ⟨m, meth, c, e0, e1, e2, e4, e6, e8⟩
/-- the call itself, behind the step that links it -/
theorem cd_callX {G : cd_Gl} (X : Stand p l e R s m args below meth c T locs cells slots) (hx : p.tables.exec = Jvm.exec) (hT : cd_Tb G s) {g : JFrame} (hg : g.method = m) (hsize : g.locals.size = c.maxLocals) {ig : Instr} {len : Nat} (hdg : decode c.code g.pc = .ok (ig, len))
    {y : MethodName} {nL N mc ms : Nat} {av : List Value} {w : cd_Wd} {Q : cd_Out → cd_Wd → Prop} (hC : cd_Ct G l y N mc ms av w Q) (hcd : cd_Cd y nL) (hpl : plainName y.cls = true) {mk : MethodId} (hn : s.methodNamed? y = some mk) (hH : cd_Hp G w T.heap)
    (hfr : N + 1 ≤ R.frames) (hlo : 2 * g.monitorRoom + (g.stack.map fun v => v.category).sum + (nL + 11) + 64 * N ≤ R.locals) (hce : cells + mc ≤ R.cells) (hsl : slots + ms ≤ R.slots) :
    ∃ (o : Outcome) (T' : State) (L : List Loc), Stand p l e R s m args below meth c T' (locs ++ L) (cells + mc) (slots + ms) ∧ (∀ q ∈ L, G.2.2.size ≤ q.base) ∧ cd_OQ G s Q o T' ∧
      ∀ acts, Steps p.tables e below (doInvoke e (T.setTop g) acts mk av.toArray).1 (match o with
        | .returned v => T'.setTop { g with pc := g.pc + len, stack := v.toList ++ g.stack }
        | .threw x => (T'.setTop g).pushFrame (.throwing x)) := by
  obtain ⟨mk0, methk, ck, e0, e1, e2, e4, e6, e8⟩ := hcd.of hT
  cases Option.some.inj (e0.symm.trans hn)
  have hmk : T.vm.method? mk = some methk := by rw [X.warmed.alike.method?]; exact e1
  have hnT : T.methodNamed? y = some mk := X.named hn
  have hpk : T.plainMethod mk := State.plainMethod.of_named (s := T) (plainFor_of_name hpl) hnT hmk
  obtain ⟨Y, hin⟩ := X.into hg hsize hdg av.toArray (R' := cd_rm N mc ms) hmk e2 e6 hpk hfr (by rw [e4]; exact hlo) hce hsl
  have hWc : s.WarmedH (T.calling g mk av.toArray).vm := X.warmed
  obtain ⟨t, st, o, L, a1, a2, a3, a4, a5, a6⟩ := hC p e (T.calling g mk av.toArray) mk (.java g :: below) methk ck ((T.setTop g).pushFrame (.java (entryFrame mk av.toArray ck.maxLocals))) hx hnT (hT.warm hWc) rfl (by exact hH) Y
  have hst : ∀ acts, Steps p.tables e below (doInvoke e (T.setTop g) acts mk av.toArray).1 t := fun acts => by rw [hin acts]; exact Steps.weaken (mid := [.java g]) st
  cases o with
  | returned v =>
    obtain ⟨w', b1, b2⟩ := a6
    obtain ⟨T', X', -, -, ht⟩ := X.outOf hg hdg a2 a3 a4
    refine ⟨.returned v, T', L, X', a5, ⟨w', ?_, b2⟩, fun acts => ?_⟩
    · rw [ht] at b1; exact b1
    · have h9 := hst acts
      rw [ht] at h9
      exact h9
  | threw x =>
    obtain ⟨w', E, ce, b1, b2, b3, b4, b5, b6⟩ := a6
    obtain ⟨T', X', -, -, ht⟩ := X.outOfThrown hg a2 a3 a4
    refine ⟨.threw x, T', L, X', a5, ⟨w', E, ce, ?_, ?_, b3, b4, ?_, b6⟩, fun acts => ?_⟩
    · rw [ht] at b1; exact b1
    · rw [ht] at b2; exact b2
    · rw [← hWc.alike.findClass]; exact b5
    · have h9 := hst acts
      rw [ht] at h9
      exact h9
end Calls9
section Rows2
variable {G : cd_Gl} {l : Launch} {C : cd_Cx} {Q : State → Prop} {k n : Nat} {w : cd_Wd} {pc : Nat} {lv : List (Option Value)} {rest : List Value} {y : MethodName} {cc : ByteArray} {nL : Nat} {ret : Option FieldType} {ex : List (Nat × Nat × Nat × Nat)} {R : Room}
/-- the machine, with an exception of the class cd_ex E under way in this frame at pc, comes to Q -/
def cd_Gx (G : cd_Gl) (l : Launch) (C : cd_Cx) (Q : State → Prop) (k n : Nat) (w : cd_Wd) (pc : Nat) (lv : List (Option Value)) (E : Nat) : Prop :=
  ∀ (T : State) (locs : List Loc) (ls : Array Slot) (st : List Value) (x : Nat) (ce : Cell), cd_Hp G w T.heap → (∀ z ∈ locs, G.2.2.size ≤ z.base) → cd_Lo ls lv → T.heap[x]? = some ce → ce.vm = .none → G.2.2.size ≤ x → (cx_s C).vm.findClass (cd_ex E) = some ce.cls →
    Stand (cx_p C) l (cx_e C) (cx_R C) (cx_s C) (cx_m C) (cx_a C) (cx_b C) (cx_h C) (cx_c C) T locs k n → ∃ t, Steps (cx_p C).tables (cx_e C) (cx_b C) ((T.setTop (F0 (cx_m C) pc ls st)).pushFrame (.throwing x)) t ∧ Q t
/-- a call, its linking step given -/
theorem cd_call (O : cd_Ok G y cc nL ret ex R C) {y' : MethodName} {nL' N mc ms : Nat} {av st : List Value} {ig : Instr} (hcd : cd_Cd y' nL') (hpl : plainName y'.cls = true) (hd : decode cc pc = .ok (ig, 3))
    (hfr : N + 1 ≤ R.frames) (hlo : (rest.map fun v => v.category).sum + (nL' + 11) + 64 * N ≤ R.locals) (hce : k + mc ≤ R.cells) (hsl : n + ms ≤ R.slots)
    (hlink : ∀ (T : State) (locs : List Loc) (ls : Array Slot), cd_Hp G w T.heap → ls.size = (cx_c C).maxLocals → Stand (cx_p C) l (cx_e C) (cx_R C) (cx_s C) (cx_m C) (cx_a C) (cx_b C) (cx_h C) (cx_c C) T locs k n → ∃ (mk : MethodId) (vm' : Vm), (cx_s C).methodNamed? y' = some mk ∧ Stand (cx_p C) l (cx_e C) (cx_R C) (cx_s C) (cx_m C) (cx_a C) (cx_b C) (cx_h C) (cx_c C) (T.setVm vm') locs k n ∧
      ∀ target, (∀ acts, Steps (cx_p C).tables (cx_e C) (cx_b C) (doInvoke (cx_e C) ((T.setVm vm').setTop (F0 (cx_m C) pc ls rest)) acts mk av.toArray).1 target) → Steps (cx_p C).tables (cx_e C) (cx_b C) (T.setTop (F0 (cx_m C) pc ls st)) target)
    (hlv : lv.length = nL)
    (hC : cd_Ct G l y' N mc ms av w (fun o w' => match o with
      | .inl v => cd_Go G l C Q (k + mc) (n + ms) w' (pc + 3) lv (v.toList ++ rest)
      | .inr E => cd_Gx G l C Q (k + mc) (n + ms) w' pc lv E)) : cd_Go G l C Q k n w pc lv st := by
  intro H locs ls a1 b1 c1 T hT X
  have hsz : ls.size = (cx_c C).maxLocals := by rw [c1.1, hlv, O.2.2.1]
  obtain ⟨mk, vm', h1, X1, hst⟩ := hlink T locs ls (by rw [hT]; exact a1) hsz X
  have hR := O.2.2.2.2.2.2.2.2.2.1
  obtain ⟨o, T', L, X2, hL, hq, hstep⟩ := cd_callX (g := F0 (cx_m C) pc ls rest) X1 O.1 O.2.2.2.2.2.2.2.1 rfl hsz (by rw [O.2.1]; exact hd) hC hcd hpl h1 (by show cd_Hp G w T.heap; rw [hT]; exact a1) (by rw [hR]; exact hfr) (by rw [hR]; show 2 * 0 + (rest.map fun v => v.category).sum + (nL' + 11) + 64 * N ≤ R.locals; omega) (by rw [hR]; exact hce) (by rw [hR]; exact hsl)
  cases o with
  | returned v =>
    obtain ⟨w', q1, q2⟩ := hq
    obtain ⟨t, s1, s2⟩ := q2 T'.heap (locs ++ L) ls q1 (t_lL b1 hL) c1 T' rfl X2
    exact ⟨t, hst _ fun acts => (hstep acts).trans s1, s2⟩
  | threw x =>
    obtain ⟨w', E, ce, q1, q2, q3, q4, q5, q6⟩ := hq
    obtain ⟨t, s1, s2⟩ := q6 T' (locs ++ L) ls rest x ce q1 (t_lL b1 hL) c1 q2 q3 q4 q5 X2
    exact ⟨t, hst _ fun acts => (hstep acts).trans s1, s2⟩
theorem g_calls (O : cd_Ok G y cc nL ret ex R C) {y' : MethodName} {nL' N mc ms idx : Nat} {av : List Value} (hcd : cd_Cd y' nL') (hpl : plainName y'.cls = true ∧ y'.cls ≠ "java/lang/invoke/MethodHandle" ∧ y'.cls ≠ "java/lang/invoke/VarHandle")
    (hl : Cond.methodLink y.cls idx y' ∈ lw_tbl ∧ cd_gw (Cond.methodLink y.cls idx y') = true) (hs : Cond.static y' ∈ lw_tbl ∧ cd_gw (Cond.static y') = true) (hini : Cond.initialized y'.cls ∈ lw_tbl ∧ cd_gw (Cond.initialized y'.cls) = true)
    (hlen : (parseMethodDescriptor y'.desc).map (fun d => d.parameters.length) = some av.length) (hd : decode cc pc = .ok (.invokestatic idx, 3)) (hlv : lv.length = nL)
    (hfr : N + 1 ≤ R.frames) (hlo : (rest.map fun v => v.category).sum + (nL' + 11) + 64 * N ≤ R.locals) (hce : k + mc ≤ R.cells) (hsl : n + ms ≤ R.slots)
    (hC : cd_Ct G l y' N mc ms av w (fun o w' => match o with
      | .inl v => cd_Go G l C Q (k + mc) (n + ms) w' (pc + 3) lv (v.toList ++ rest)
      | .inr E => cd_Gx G l C Q (k + mc) (n + ms) w' pc lv E)) : cd_Go G l C Q k n w pc lv (av.reverse ++ rest) := by
  refine cd_call O hcd hpl.1 hd hfr hlo hce hsl (fun T locs ls hH hsz X => ?_) hlv hC
  obtain ⟨mk, methk, ck, e0, e1, e2, e4, e6, e8⟩ := hcd.of O.2.2.2.2.2.2.2.1
  obtain ⟨kP, hkP, -⟩ := className_of_methodNamed e0
  have hlen' : av.length = methk.sig.parameters.length := by rw [e8] at hlen; exact (Option.some.inj hlen).symm
  obtain ⟨vm', X1, st⟩ := X.invokestatic O.1 O.2.2.2.1 (cd_word O hl) e0 e1 (Cond.static_spec e0 e1 (cd_word O hs)) hkP (Cond.initialized_spec (findClass_of_methodNamed e0) hkP (cd_word O hini)) hpl.2 (g := F0 (cx_m C) pc ls (av.reverse ++ rest)) rfl (argsL := av) (rest := rest) hlen' rfl (by rw [O.2.1]; exact hd)
  exact ⟨mk, vm', e0, X1, st⟩
theorem g_callv (O : cd_Ok G y cc nL ret ex R C) {y' : MethodName} {nL' N mc ms idx ci a : Nat} {q : vw_C} {av : List Value} (hcd : cd_Cd y' nL') (hpl : plainName y'.cls = true ∧ y'.cls ≠ "java/lang/invoke/MethodHandle" ∧ y'.cls ≠ "java/lang/invoke/VarHandle") (hq : cd_cls[ci]? = some q) (ha : cd_kd w a = 2 * ci + 2)
    (hl : Cond.methodLink y.cls idx y' ∈ lw_tbl ∧ cd_gw (Cond.methodLink y.cls idx y') = true) (hs : Cond.instanceMethod y' ∈ lw_tbl ∧ cd_gw (Cond.instanceMethod y') = true) (hsel : Cond.selects q.1 y' y' ∈ lw_tbl ∧ cd_gw (Cond.selects q.1 y' y') = true)
    (hlen : (parseMethodDescriptor y'.desc).map (fun d => d.parameters.length) = some av.length) (hd : decode cc pc = .ok (.invokevirtual idx, 3)) (hlv : lv.length = nL)
    (hfr : N + 1 ≤ R.frames) (hlo : (rest.map fun v => v.category).sum + (nL' + 11) + 64 * N ≤ R.locals) (hce : k + mc ≤ R.cells) (hsl : n + ms ≤ R.slots)
    (hC : cd_Ct G l y' N mc ms (.ref a :: av) w (fun o w' => match o with
      | .inl v => cd_Go G l C Q (k + mc) (n + ms) w' (pc + 3) lv (v.toList ++ rest)
      | .inr E => cd_Gx G l C Q (k + mc) (n + ms) w' pc lv E)) : cd_Go G l C Q k n w pc lv (av.reverse ++ .ref a :: rest) := by
  refine cd_call O hcd hpl.1 hd hfr hlo hce hsl (fun T locs ls hH hsz X => ?_) hlv hC
  obtain ⟨mk, methk, ck, e0, e1, e2, e4, e6, e8⟩ := hcd.of O.2.2.2.2.2.2.2.1
  have hlen' : av.length = methk.sig.parameters.length := by rw [e8] at hlen; exact (Option.some.inj hlen).symm
  obtain ⟨mk2, methM, hnamed, hmethM, hstM, habM⟩ := Cond.instanceMethod_spec (cd_word O hs)
  cases Option.some.inj (e0.symm.trans hnamed)
  cases Option.some.inj (e1.symm.trans hmethM)
  obtain ⟨cellB, g1, g2, g3, -⟩ := hH.obj ha hq
  obtain ⟨c2, r2, m2, q1, q2, q3, q4, kP, hkP, hkPi⟩ := Cond.selects_spec (cd_word O hsel)
  have hcls := ((cd_K O).1 ci _ hq).2.1
  cases Option.some.inj (hcls.symm.trans q1)
  cases (State.methodFound?_of_named hnamed hpl.2).symm.trans q2
  cases hnamed.symm.trans q3
  have hselP : selectMethod (cx_e C).platform (cx_s C).vm cellB.cls mk = .method mk := by rw [Launch.admits_selectMethod X.admits, g2]; exact q4
  obtain ⟨vm₁, X₁, hstep₁⟩ := X.invokevirtual O.1 O.2.2.2.1 (cd_word O hl) hnamed hmethM hstM hkP hkPi hpl.2 (a := a) (cell := cellB) g1
    (fun z h => by rw [g3] at h; cases h) hselP hmethM habM hkP hkPi (g := F0 (cx_m C) pc ls (av.reverse ++ .ref a :: rest)) rfl (argsL := av) (rest := rest) hlen' rfl (by rw [O.2.1]; exact hd)
  exact ⟨mk, vm₁, hnamed, X₁, hstep₁⟩
theorem g_calli (O : cd_Ok G y cc nL ret ex R C) {y' : MethodName} {cc' : ByteArray} {nL' N mc ms idx a : Nat} {av : List Value} (hcd : Cond.code y' cc' nL' none ∈ lw_tbl ∧ cd_gw (Cond.code y' cc' nL' none) = true) (hpl : plainName y'.cls = true ∧ y'.cls ≠ "java/lang/invoke/MethodHandle" ∧ y'.cls ≠ "java/lang/invoke/VarHandle") (hnm : y'.name = "<init>")
    (hl : Cond.methodLink y.cls idx y' ∈ lw_tbl ∧ cd_gw (Cond.methodLink y.cls idx y') = true) (hs : Cond.instanceMethod y' ∈ lw_tbl ∧ cd_gw (Cond.instanceMethod y') = true)
    (hlen : (parseMethodDescriptor y'.desc).map (fun d => d.parameters.length) = some av.length) (hd : decode cc pc = .ok (.invokespecial idx, 3)) (hlv : lv.length = nL)
    (hfr : N + 1 ≤ R.frames) (hlo : (rest.map fun v => v.category).sum + (nL' + 11) + 64 * N ≤ R.locals) (hce : k + mc ≤ R.cells) (hsl : n + ms ≤ R.slots)
    (hC : cd_Ct G l y' N mc ms (.ref a :: av) w (fun o w' => match o with
      | .inl v => cd_Go G l C Q (k + mc) (n + ms) w' (pc + 3) lv (v.toList ++ rest)
      | .inr E => cd_Gx G l C Q (k + mc) (n + ms) w' pc lv E)) : cd_Go G l C Q k n w pc lv (av.reverse ++ .ref a :: rest) := by
  refine cd_call O (Or.inl ⟨_, _, hcd⟩) hpl.1 hd hfr hlo hce hsl (fun T locs ls hH hsz X => ?_) hlv hC
  have hpl9 : (cx_e C).platform.magicAccessors = ({} : Platform).magicAccessors := by rw [X.admits.platform]
  obtain ⟨mk, methM, cM, kP, vm₁, hnamed, hmethM, hcodeM, -, hlocalsM, -, hkP, -, hW₁, hstep₁⟩ := Steps.initColdArgs (e := cx_e C) X.here O.1 X.warmed hpl9 O.2.2.2.1 hnm hpl.2 (cd_word O hl) (cd_word O hs) (cd_word O hcd) (f := F0 (cx_m C) pc ls (av.reverse ++ .ref a :: rest)) rfl (fun sig hsig => by rw [hsig] at hlen; exact (Option.some.inj hlen).symm) rfl (by rw [O.2.1]; exact hd)
  exact ⟨mk, vm₁, hnamed, X.noted hW₁, hstep₁⟩
/-- Object's constructor -/
theorem g_obj (O : cd_Ok G y cc nL ret ex R C) {idx a : Nat} (hl : Cond.methodLink y.cls idx Lib.objectInit ∈ lw_tbl ∧ cd_gw (Cond.methodLink y.cls idx Lib.objectInit) = true) (hs : Cond.instanceMethod Lib.objectInit ∈ lw_tbl ∧ cd_gw (Cond.instanceMethod Lib.objectInit) = true) (hcd : Cond.code Lib.objectInit ⟨#[0xb1]⟩ 1 none ∈ lw_tbl ∧ cd_gw (Cond.code Lib.objectInit ⟨#[0xb1]⟩ 1 none) = true)
    (hd : decode cc pc = .ok (.invokespecial idx, 3)) (hlv : lv.length = nL) (hfr : 1 ≤ R.frames) (hlo : (rest.map fun v => v.category).sum + 12 ≤ R.locals)
    (h : cd_Go G l C Q k n w (pc + 3) lv rest) : cd_Go G l C Q k n w pc lv (.ref a :: rest) := by
  intro H locs ls a1 b1 c1
  have hR := O.2.2.2.2.2.2.2.2.2.1
  have hsz : ls.size = (cx_c C).maxLocals := by rw [c1.1, hlv, O.2.2.1]
  exact W.objInit O.1 O.2.1 O.2.2.2.1 (cd_word O hl) (cd_word O hs) (cd_word O hcd) rfl hsz rfl hd (by rw [hR]; exact hfr) (by rw [hR]; show 2 * 0 + _ + 12 ≤ _; omega) (h H locs ls a1 b1 c1)
/-! ### the ends -/
theorem cd_end {mc ms : Nat} {Q : cd_Out → cd_Wd → Prop} {T : State} {locs : List Loc} {fs : List Frame} {v : Option Value} (hk : k ≤ mc) (hn : n ≤ ms) (hH : cd_Hp G w T.heap) (hl : ∀ x ∈ locs, G.2.2.size ≤ x.base) (hq : Q (.inl v) w)
    (hrun : (T.setFrames fs).status = .running) (hended : Ended (T.setFrames fs) (cx_b C) (.returned v)) (hW : (cx_s C).WarmedH (T.setFrames fs).vm) (hframe : (cx_s C).sameButNew ({ T.setFrames fs with vm := (cx_s C).vm } : State) locs k n) : cd_MQ G (cx_s C) (cx_b C) mc ms Q (T.setFrames fs) :=
  ⟨.returned v, locs, hrun, hended, hW, hframe.weaken (fun _ h _ => h) hk hn, hl, w, hH, hq⟩
theorem g_ret (O : cd_Ok G y cc nL none ex R C) {mc ms : Nat} {Q : cd_Out → cd_Wd → Prop} (hd : decode cc pc = .ok (.return_, 1)) (hk : k ≤ mc) (hn : n ≤ ms) (hq : Q (.inl none) w) : cd_Go G l C (cd_MQ G (cx_s C) (cx_b C) mc ms Q) k n w pc lv [] := by
  intro H locs ls a1 b1 c1 T hT X
  have hlocks := O.2.2.2.2.2.1
  have hr := O.2.2.2.2.1
  obtain ⟨fs, hret, hrun, hended, hW, hframe⟩ := X.leave (v := none) (fun _ => rfl)
  have hmeth' : T.vm.method? (cx_m C) = some (cx_h C) := X.method'
  refine ⟨T.setFrames fs, ?_, cd_end hk hn (by rw [hT]; exact a1) b1 hq hrun hended hW hframe⟩
  have hexec := O.1
  have hb := O.2.1
  jvm_step X.here [X.here.top, hexec, hb, hd, hmeth', hr]
  (try refine ⟨rfl, ?_⟩); (try refine ⟨rfl, ?_⟩)
  first | (intro acts; rw [hret _ acts rfl rfl rfl]) | rw [hret _ _ rfl rfl rfl]
  exact Steps.refl _
theorem g_iret (O : cd_Ok G y cc nL (some .int) ex R C) {mc ms : Nat} {v : Int32} {Q : cd_Out → cd_Wd → Prop} (hd : decode cc pc = .ok (.ireturn, 1)) (hk : k ≤ mc) (hn : n ≤ ms) (hq : Q (.inl (some (.int v))) w) : cd_Go G l C (cd_MQ G (cx_s C) (cx_b C) mc ms Q) k n w pc lv [.int v] := by
  intro H locs ls a1 b1 c1 T hT X
  have hlocks := O.2.2.2.2.2.1
  have hr := O.2.2.2.2.1
  obtain ⟨fs, hret, hrun, hended, hW, hframe⟩ := X.leave (v := some (.int v)) (fun h => by rw [hr] at h; cases h)
  have hmeth' : T.vm.method? (cx_m C) = some (cx_h C) := X.method'
  refine ⟨T.setFrames fs, ?_, cd_end hk hn (by rw [hT]; exact a1) b1 hq hrun hended hW hframe⟩
  have hexec := O.1
  have hb := O.2.1
  jvm_step X.here [X.here.top, hexec, hb, hd, hmeth', hr, narrow]
  (try refine ⟨rfl, ?_⟩); (try refine ⟨rfl, ?_⟩)
  first | (intro acts; rw [hret _ acts rfl rfl rfl]) | rw [hret _ _ rfl rfl rfl]
  exact Steps.refl _
theorem g_zret (O : cd_Ok G y cc nL (some .boolean) ex R C) {mc ms : Nat} {v : Int32} {Q : cd_Out → cd_Wd → Prop} (hd : decode cc pc = .ok (.ireturn, 1)) (hv : v = 0 ∨ v = 1) (hk : k ≤ mc) (hn : n ≤ ms) (hq : Q (.inl (some (.int v))) w) : cd_Go G l C (cd_MQ G (cx_s C) (cx_b C) mc ms Q) k n w pc lv [.int v] := by
  intro H locs ls a1 b1 c1 T hT X
  have hlocks := O.2.2.2.2.2.1
  have hr := O.2.2.2.2.1
  obtain ⟨fs, hret, hrun, hended, hW, hframe⟩ := X.leave (v := some (.int v)) (fun h => by rw [hr] at h; cases h)
  have hmeth' : T.vm.method? (cx_m C) = some (cx_h C) := X.method'
  refine ⟨T.setFrames fs, ?_, cd_end hk hn (by rw [hT]; exact a1) b1 hq hrun hended hW hframe⟩
  have hexec := O.1
  have hb := O.2.1
  have hnv : narrow .boolean (.int v) = .int v := by rcases hv with rfl | rfl <;> rfl
  jvm_step X.here [X.here.top, hexec, hb, hd, hmeth', hr, hnv]
  (try refine ⟨rfl, ?_⟩); (try refine ⟨rfl, ?_⟩)
  first | (intro acts; rw [hret _ acts rfl rfl rfl]) | rw [hret _ _ rfl rfl rfl]
  exact Steps.refl _
theorem g_aretN {D : String} (O : cd_Ok G y cc nL (some (.object D)) ex R C) {mc ms : Nat} {Q : cd_Out → cd_Wd → Prop} (hd : decode cc pc = .ok (.areturn, 1)) (hk : k ≤ mc) (hn : n ≤ ms) (hq : Q (.inl (some .null)) w) : cd_Go G l C (cd_MQ G (cx_s C) (cx_b C) mc ms Q) k n w pc lv [.null] := by
  intro H locs ls a1 b1 c1 T hT X
  have hlocks := O.2.2.2.2.2.1
  have hr := O.2.2.2.2.1
  obtain ⟨fs, hret, hrun, hended, hW, hframe⟩ := X.leave (v := some .null) (fun h => by rw [hr] at h; cases h)
  have hmeth' : T.vm.method? (cx_m C) = some (cx_h C) := X.method'
  refine ⟨T.setFrames fs, ?_, cd_end hk hn (by rw [hT]; exact a1) b1 hq hrun hended hW hframe⟩
  have hexec := O.1
  have hb := O.2.1
  jvm_step X.here [X.here.top, hexec, hb, hd, hmeth', hr]
  (try refine ⟨rfl, ?_⟩); (try refine ⟨rfl, ?_⟩)
  first | (intro acts; rw [hret _ acts rfl rfl rfl]) | rw [hret _ _ rfl rfl rfl]
  exact Steps.refl _
theorem g_aretS {D : String} (O : cd_Ok G y cc nL (some (.object D)) ex R C) {mc ms a : Nat} {Q : cd_Out → cd_Wd → Prop} (hd : decode cc pc = .ok (.areturn, 1)) (hk : k ≤ mc) (hn : n ≤ ms) (hq : Q (.inl (some (.ref a))) w) : cd_Go G l C (cd_MQ G (cx_s C) (cx_b C) mc ms Q) k n w pc lv [.ref a] := by
  intro H locs ls a1 b1 c1 T hT X
  have hlocks := O.2.2.2.2.2.1
  have hr := O.2.2.2.2.1
  obtain ⟨fs, hret, hrun, hended, hW, hframe⟩ := X.leave (v := some (.ref a)) (fun h => by rw [hr] at h; cases h)
  have hmeth' : T.vm.method? (cx_m C) = some (cx_h C) := X.method'
  refine ⟨T.setFrames fs, ?_, cd_end hk hn (by rw [hT]; exact a1) b1 hq hrun hended hW hframe⟩
  have hexec := O.1
  have hb := O.2.1
  jvm_step X.here [X.here.top, hexec, hb, hd, hmeth', hr]
  (try refine ⟨rfl, ?_⟩); (try refine ⟨rfl, ?_⟩)
  first | (intro acts; rw [hret _ acts rfl rfl rfl]) | rw [hret _ _ rfl rfl rfl]
  exact Steps.refl _
/-- an exception leaves a method that has no handlers -/
theorem gx_out (O : cd_Ok G y cc nL ret [] R C) {mc ms E : Nat} {Q : cd_Out → cd_Wd → Prop} (hk : k ≤ mc) (hn : n ≤ ms) (hq : Q (.inr E) w) : cd_Gx G l C (cd_MQ G (cx_s C) (cx_b C) mc ms Q) k n w pc lv E := by
  intro T locs ls st x ce hH hl hls h1 h2 h3 h4 X
  have hlocks := O.2.2.2.2.2.1
  have hex : (cx_c C).exceptionTable.toList = [] := List.map_eq_nil_iff.mp O.2.2.2.2.2.2.2.2.1
  obtain ⟨st1, hrun, hend, hW, hsm⟩ := X.leaveThrown x (g := F0 (cx_m C) pc ls st) rfl rfl rfl (fun z hz => by rw [hex] at hz; cases hz)
  exact ⟨_, st1, .threw x, locs, hrun, hend, hW, hsm.weaken (fun _ h _ => h) hk hn, hl, w, E, ce, hH, h1, h2, h3, h4, hq⟩
end Rows2
end
section
/-! ===== A THROW: new E; dup; ldc; E(String); athrow, in a method without handlers ===== -/
/-- the four words of a throw that speak of the heap -/
def cd_h4 (c : Cond) : Bool := decide (c = .isRef (.static Bundle.tN "UNASSIGNED_STACK" Bundle.steD)) || decide (c = .isRef (.static Bundle.tN "SUPPRESSED_SENTINEL" Bundle.listD)) || decide (c = .laysStatic Bundle.tN "UNASSIGNED_STACK" Bundle.steD) || decide (c = .laysStatic Bundle.tN "SUPPRESSED_SENTINEL" Bundle.listD)
/-- the constructors E(String): they hand on to RuntimeException(String), by the entry 7, or 13 -/
def cd_ix : Nat → Nat
  | 3 => 13
  | _ => 7
def cd_bs : Nat → ByteArray
  | 3 => ⟨#[0x2a, 0x2b, 0xb7, 0x00, 0x0d, 0xb1]⟩
  | _ => ⟨#[0x2a, 0x2b, 0xb7, 0x00, 0x07, 0xb1]⟩
theorem cd_bs_d (E : Nat) : decode (cd_bs E) 0 = .ok (.aload_n 0, 1) ∧ decode (cd_bs E) 1 = .ok (.aload_n 1, 1) ∧ decode (cd_bs E) 2 = .ok (.invokespecial (cd_ix E), 3) ∧ decode (cd_bs E) 5 = .ok (.return_, 1) := by
  unfold cd_bs cd_ix
  split <;> decide +kernel
/-- the words of a throw of E but the link of its constructor -/
def cd_at (E : Nat) : List Cond := Bundle.throwableAtoms ++ Bundle.throwableSAtoms ++ Bundle.passSAtoms (cd_ex E) "java/lang/RuntimeException" (cd_ix E) (cd_bs E) ++ Bundle.chainSAtoms "java/lang/RuntimeException" ["java/lang/Exception"] ++
  [.instantiable (cd_ex E) 6, .selects (cd_ex E) Bundle.tFill0 Bundle.tFill0, .selects (cd_ex E) Bundle.tFill Bundle.tFill,
   .lays (cd_ex E) Bundle.tN "cause" "Ljava/lang/Throwable;", .lays (cd_ex E) Bundle.tN "stackTrace" Bundle.steD, .lays (cd_ex E) Bundle.tN "suppressedExceptions" Bundle.listD, .lays (cd_ex E) Bundle.tN "detailMessage" "Ljava/lang/String;",
   .isRef (.static Bundle.tN "UNASSIGNED_STACK" Bundle.steD), .isRef (.static Bundle.tN "SUPPRESSED_SENTINEL" Bundle.listD),
   .fieldLink Bundle.tN 198 Bundle.tN "backtrace" "Ljava/lang/Object;", .lays Bundle.tN Bundle.tN "backtrace" "Ljava/lang/Object;", .lays (cd_ex E) Bundle.tN "backtrace" "Ljava/lang/Object;"]
section Cth

set_option maxHeartbeats 4000000 in
/-- a made exception of class E is built and thrown out of the method; what is used of the library: its bundle of Throwable, its chain of constructors, the leaving -/
theorem cd_cth {p : Program} {l : Launch} {e : Env} {R : Room} {s : State} {m₀ : MethodId} {args : Array Value} {below : List Frame} {meth : Method} {c : Code} {V : State} {locs : List Loc} {cells slots : Nat} (X : Stand p l e R s m₀ args below meth c V locs cells slots) (hexec : p.tables.exec = Jvm.exec) (htr : e.platform.stackTraces = false) {own : String} {E ic : Nat}
    (hown : s.vm.findClass own = some m₀.cls) (hfit : Bundle.fit (cd_ex E) = true) (hml : (Cond.methodLink own ic (Bundle.initS (cd_ex E))).before args s = true) (h : ∀ z ∈ cd_at E, z.before args s = true) (hlocs : locs = [])
    {a : Addr} {cX : ClassId} {kX : Class} (hfX : s.vm.findClass (cd_ex E) = some cX) (hkX : s.vm.classes[cX]? = some kX) (hcell : V.heap[a]? = some (freshCell cX kX)) (hnew : s.heap.size ≤ a) {msg : Value} (hmsg : msg.isRef = true)
    {g : JFrame} (hg : g.method = m₀) (hsize : g.locals.size = c.maxLocals) (hlk : g.locked = none) (hen : g.entered = []) {rest : List Value} (hst : g.stack = msg :: .ref a :: .ref a :: rest)
    (hd6 : decode c.code g.pc = .ok (.invokespecial ic, 3)) (hd9 : decode c.code (g.pc + 3) = .ok (.athrow, 1)) (hout : ∀ x ∈ c.exceptionTable.toList, covers x (g.pc + 3) = false)
    (hR1 : 5 < R.frames) (hR2 : 2 * g.monitorRoom + ((Value.ref a :: rest).map fun v => v.category).sum + 81 ≤ R.locals) (hlocks : meth.locks = false) :
    ∃ U : State, Steps p.tables e below (V.setTop g) U ∧ U.status = .running ∧ Ended U below (.threw a) ∧ s.WarmedH U.vm ∧ s.sameButNew ({ U with vm := s.vm } : State) locs cells slots ∧ ∃ ce, U.heap[a]? = some ce ∧ ce.vm = .none ∧ ce.cls = cX := by
  subst hlocs
  have hp := X.admits.platform
  have hpl : e.platform.magicAccessors = ({} : Platform).magicAccessors := by rw [hp]
  have w : ∀ z, z ∈ cd_at E → z.holds args s none s [] = true := fun z hz => h z hz
  obtain ⟨T, Z0, L, -, Y⟩ := ThrowableC.of_atoms (args := args) (by rw [hp] : e.platform.frameOwnsMonitors = true) (by rw [hp] : e.platform.finalization = false) hpl (fun z hz => h z (by simp [cd_at, hz]))
  obtain ⟨Z, M, LZ, LM, hnZ⟩ := Init0T.ofS_atoms (args := args) hpl L Y (fun z hz => h z (by simp [cd_at, hz]))
  obtain ⟨P2, Ps, hlen, L2, hL, hm2, hsup2, hpass⟩ := Bundle.chainS (args := args) hpl hnZ ["java/lang/Exception"] "java/lang/RuntimeException" (by decide) (by decide) (fun z hz => h z (by simp [cd_at, hz]))
  obtain ⟨b0, b1, b2, b5⟩ := cd_bs_d E
  obtain ⟨P1, L1, hm1, hs1⟩ := PassC.ofS_atoms (args := args) (s := s) hpl (X := cd_ex E) (Y := "java/lang/RuntimeException") (Bundle.fit_spec hfit).1 (by decide) b0 b1 b2 b5 (fun z hz => h z (by simp [cd_at, hz]))
  have hsup1 : P1.sup = P2.m := Option.some.inj (hs1.symm.trans hm2)
  cases Option.some.inj (hfX.symm.trans (findClass_of_methodNamed hm1))
  obtain ⟨c1, k1, hc1, hk, hord, -, -, -⟩ := Cond.instantiable_spec (w (.instantiable (cd_ex E) 6) (by simp [cd_at]))
  cases Option.some.inj (hc1.symm.trans hfX)
  cases Option.some.inj (hkX.symm.trans hk)
  have sel : ∀ (y : MethodName) (mm : MethodId), s.methodNamed? y = some mm → (y.cls ≠ "java/lang/invoke/MethodHandle" ∧ y.cls ≠ "java/lang/invoke/VarHandle") → (Cond.selects (cd_ex E) y y).holds args s none s [] = true → selectMethod e.platform s.vm P1.m.cls mm = .method mm := by
    intro y mm hy hne hsl
    obtain ⟨c2, r2, m2, q1, q2, q3, q4, -⟩ := Cond.selects_spec hsl
    cases Option.some.inj (q1.symm.trans hfX)
    cases Option.some.inj (q2.symm.trans (State.methodFound?_of_named hy hne))
    cases Option.some.inj (q3.symm.trans hy)
    rw [Launch.admits_selectMethod X.admits]; exact q4
  obtain ⟨cS, hcS, hiS⟩ := Y.statics
  obtain ⟨u0, hu0⟩ := Cond.staticRefV Y.unassigned L.unassignedStatic L.statics hcS hiS (w (.isRef (.static Bundle.tN "UNASSIGNED_STACK" Bundle.steD)) (by simp [cd_at]))
  obtain ⟨u1, hu1⟩ := Cond.staticRefV Y.sentinel L.sentinelStatic L.statics hcS hiS (w (.isRef (.static Bundle.tN "SUPPRESSED_SENTINEL" Bundle.listD)) (by simp [cd_at]))
  obtain ⟨cB, iB, fB, hkB, hgB, haB, hsB, -, hnB, htB, hfB⟩ := Cond.ownField (t := .object "java/lang/Object") Y.found L.cls (by decide +kernel) (w (.fieldLink Bundle.tN 198 Bundle.tN "backtrace" "Ljava/lang/Object;") (by simp [cd_at])) (w (.lays Bundle.tN Bundle.tN "backtrace" "Ljava/lang/Object;") (by simp [cd_at])) e.platform hpl
  obtain ⟨cV, hcV, heV, -, hkV⟩ := X.same.2.2.2.2.2 T.aS cS hcS
  have hcV' : V.heap[T.aS]? = some cV := hcV
  have hunk : cV.vm ≠ .unknown := by
    rw [heV]
    intro hz
    have hz' : cS.vm = .unknown := hz
    rw [hz'] at hiS
    cases hiS
  have hneS : T.aS ≠ a := Nat.ne_of_lt (Nat.lt_of_lt_of_le (Array.getElem?_eq_some_iff.mp hcS).1 hnew)
  obtain ⟨iM, hfM⟩ := Y.msg
  obtain ⟨tyC, eC, gC, nC⟩ := Cond.laysAt hfX hk Y.cause (w (.lays (cd_ex E) Bundle.tN "cause" "Ljava/lang/Throwable;") (by simp [cd_at]))
  obtain ⟨tyS, eS, gS, nS⟩ := Cond.laysAt hfX hk Y.stack (w (.lays (cd_ex E) Bundle.tN "stackTrace" Bundle.steD) (by simp [cd_at]))
  obtain ⟨tyP, eP, gP, nP⟩ := Cond.laysAt hfX hk Y.supp (w (.lays (cd_ex E) Bundle.tN "suppressedExceptions" Bundle.listD) (by simp [cd_at]))
  obtain ⟨tyM, eM, gM, nM⟩ := Cond.laysAt hfX hk hfM (w (.lays (cd_ex E) Bundle.tN "detailMessage" "Ljava/lang/String;") (by simp [cd_at]))
  obtain ⟨tyB, eB, gB, nB⟩ := Cond.laysAt hfX hk hfB (w (.lays (cd_ex E) Bundle.tN "backtrace" "Ljava/lang/Object;") (by simp [cd_at]))
  have zC := Cond.laysApart gB gC nB nC (by rw [hnB, Y.causeName]; decide)
  have zS := Cond.laysApart gB gS nB nS (by rw [hnB, Y.stackName]; decide)
  have zP := Cond.laysApart gB gP nB nP (by rw [hnB, Y.suppName]; decide)
  have hskip : SkipFacts T e.platform s (fun u => u) u0 ((preparedCellV T.toThrowableT (freshCell P1.m.cls kX) a u0 u1).withEntry V.cur) :=
    ⟨{ ci198 := cB, i198 := iB, fBack := fB }, ⟨hkB, hgB, haB, hsB⟩, by
      have hd := fresh_default (c := P1.m.cls) tyB
      rw [htB] at hd
      simpa [preparedCellV, Cell.setSlot, Cell.withEntry, Array.getElem?_setIfInBounds, zC, zS, zP, zC.symm, zS.symm, zP.symm, defaultValue] using hd, fun _ _ => rfl⟩
  obtain ⟨tm, mC, cdC, kC, vm1, hnC, -, -, -, -, -, -, -, hW1, st1⟩ := Steps.initColdS (tb := p.tables) (e := e) (below := below) (s := s) (U := V) X.here hexec X.warmed hpl hown (t := Bundle.initS (cd_ex E)) rfl rfl (Bundle.fit_spec hfit).2 hml
    (h (.instanceMethod (Bundle.initS (cd_ex E))) (by simp [cd_at, Bundle.passSAtoms])) (bytes := cd_bs E) (maxL := 2) (h (.code (Bundle.initS (cd_ex E)) (cd_bs E) 2 none) (by simp [cd_at, Bundle.passSAtoms])) (f := g) hg (a := a) (msg := msg) (rest := .ref a :: rest) hst hd6
  cases Option.some.inj (hnC.symm.trans hm1)
  obtain ⟨vm2, X2, st2⟩ := (X.noted hW1).ctorMessageOffV hexec (g := { g with stack := .ref a :: rest }) hg hsize T L Z LZ M LM (P1 :: P2 :: Ps)
    (fun P hP => by
      rcases List.mem_cons.mp hP with rfl | hP
      · exact L1
      · rcases List.mem_cons.mp hP with rfl | hP
        · exact L2
        · exact hL P hP) ⟨hsup1, hsup2, hpass⟩ (u0 := u0) (sen := u1) (self := a) hmsg (cell := freshCell P1.m.cls kX) (cellS := cV)
    hcell (fun _ => by simp) (by simp) rfl rfl (sel Bundle.tFill0 _ Y.fill0 (by decide) (w _ (by simp [cd_at]))) (sel Bundle.tFill _ Y.fill (by decide) (w _ (by simp [cd_at]))) hcV' hneS hunk (by rw [hkV _ (fun z => by cases z)]; exact hu0) (by rw [hkV _ (fun z => by cases z)]; exact hu1)
    (Takes.of_laid hk hord tyC (by rw [Y.causeType]; rfl)) (Takes.of_laid hk hord tyS (by rw [Y.stackType]; exact fits_refV_array _ u0)) (Takes.of_laid hk hord tyP (by rw [Y.suppType]; exact fits_refV_object _ u1))
    (Takes.of_laid hk hord tyM (by rw [Y.msgType]; exact fits_refV_object _ ⟨msg, hmsg⟩)) Y.objLocals hskip htr [] hd6 (by simp only [List.length_cons, hlen]; exact hR1) (by simp only [List.length_cons, hlen]; exact hR2)
  obtain ⟨hwk, hrun, hend, hWU, hsame⟩ := X2.athrowLeaves hexec (g := { g with stack := .ref a :: rest, pc := g.pc + 3 }) hg hlk hen hout (a := a) (rest := rest) rfl hd9 hlocks
  have hlt : a < ((V.setVm vm1).setVm vm2).heap.size := (Array.getElem?_eq_some_iff.mp hcell).1
  refine ⟨_, st1 _ (fun acts => ?_), hrun, hend, hWU, hsame.weaken (fun z hz hz2 => ?_) (Nat.le_refl _) (Nat.le_refl _), _, heapAt_setCell_self (s := (V.setVm vm1).setVm vm2) (plainBareV T.toThrowableT (freshCell P1.m.cls kX) a u0 u1 msg) hlt, rfl, rfl⟩
  · rw [doInvoke_state]
    exact st2 _ hwk
  · exfalso
    have hb : z.base = a := by
      simp only [List.nil_append, List.mem_cons, List.not_mem_nil, or_false] at hz
      rcases hz with rfl | rfl | rfl | rfl | rfl <;> rfl
    rw [hb] at hz2
    exact Nat.not_lt.mpr hnew hz2
end Cth
def cd_Ew (E : Nat) : Prop := ∀ c ∈ cd_at E, cd_h4 c = true ∨ (c ∈ lw_tbl ∧ cd_gw c = true)
theorem cd_Zr.lays {G : cd_Gl} {n d : String} {s : State} (h : cd_Zr G n d s) (h0 : cd_H0 G s.heap) (a : Array Value) : (Cond.laysStatic Bundle.tN n d).before a s = true := by
  obtain ⟨c, k, i, f, b, cell, v, h1, h2, h3, h4, h5, h6, h7, h8, h9, h10, h11⟩ := h
  have hb : b < G.2.2.size := (Array.getElem?_eq_some_iff.mp h5).1
  have hc : s.heap[b]? = some cell := by rw [h0.2.1 b hb]; exact h5
  simp [Cond.before, Cond.holds, Cond.value, h1, h2, h3, h4, hc, h6, h7, h8, h9]
theorem cd_Zr.ref {G : cd_Gl} {n d : String} {s : State} (h : cd_Zr G n d s) (h0 : cd_H0 G s.heap) (a : Array Value) : (Cond.isRef (.static Bundle.tN n d)).before a s = true := by
  obtain ⟨c, k, i, f, b, cell, v, h1, h2, h3, h4, h5, h6, h7, h8, h9, h10, h11⟩ := h
  have hb : b < G.2.2.size := (Array.getElem?_eq_some_iff.mp h5).1
  have hc : s.heap[b]? = some cell := by rw [h0.2.1 b hb]; exact h5
  have hv : (Term.static Bundle.tN n d).eval a s none [] s = some v := by
    simp [Term.eval, State.fieldNamed?, h2, h3, h4, hc, h6, h10]
  cases v <;> first | (simp [Cond.before, Cond.holds, Cond.value, hv]; done) | (simp [Value.isRef] at h11; done)
section Thr
variable {G : cd_Gl} {l : Launch} {C : cd_Cx} {k n : Nat} {w : cd_Wd} {pc : Nat} {lv : List (Option Value)} {rest : List Value} {y : MethodName} {cc : ByteArray} {nL : Nat} {ret : Option FieldType} {R : Room}
theorem cd_atoms (O : cd_Ok G y cc nL ret [] R C) {E : Nat} (hE : cd_Ew E) : ∀ c ∈ cd_at E, c.before (cx_a C) (cx_s C) = true := by
  have hz := O.2.2.2.2.2.2.2.1
  have h0 := O.2.2.2.2.2.2.2.2.2.2
  intro c hc
  rcases hE c hc with h | h
  · simp only [cd_h4, Bool.or_eq_true, decide_eq_true_eq] at h
    rcases h with ((rfl | rfl) | rfl) | rfl
    · exact hz.2.2.2.2.1.ref h0 _
    · exact hz.2.2.2.2.2.1.ref h0 _
    · exact hz.2.2.2.2.1.lays h0 _
    · exact hz.2.2.2.2.2.1.lays h0 _
  · exact cd_word O h
/-- the same point of the same frame, its beginning taken anew here -/
theorem cd_anew {p : Program} {e : Env} {s : State} {m : MethodId} {args : Array Value} {below : List Frame} {meth : Method} {c : Code} {T : State} {locs : List Loc} (X : Stand p l e R s m args below meth c T locs k n) {k' n' : Nat} (hc : k + k' ≤ R.cells) (hs : n + n' ≤ R.slots) :
    Stand p l e { frames := R.frames, cells := k', slots := n', locals := R.locals } ((T.setVm s.vm).setFrames (.invoking m args :: below)) m args below meth c T [] 0 0 := by
  obtain ⟨g₀, hfr⟩ := X.frames_eq
  have hcur : T.cur < T.threads.size := State.cur_lt_of_frames hfr
  have hcur' : (T.setVm s.vm).cur < (T.setVm s.vm).threads.size := hcur
  have hF : ((T.setVm s.vm).setFrames (.invoking m args :: below)).frames = .invoking m args :: below := State.frames_setFrames _ hcur'
  have hlim : e.platform.stackLimits ((T.setVm s.vm).setFrames (.invoking m args :: below)).me = e.platform.stackLimits s.me := by
    rw [State.stackLimits_setFrames]; exact X.limits
  have hby : ((T.setVm s.vm).setFrames (.invoking m args :: below)).me.stackBytes = s.me.stackBytes := by
    rw [State.stackBytes_setFrames]; exact X.bytes
  have hlo : ((T.setVm s.vm).setFrames (.invoking m args :: below)).localsInUse = s.localsInUse := by
    unfold State.localsInUse
    rw [hF, X.frames]
    rfl
  obtain ⟨t, ht, -⟩ := State.frames_cons hF
  refine ⟨X.admits, X.cas, X.clock, hF, ?_, ?_, X.method, X.code, X.here, X.tail, ?_, ?_, ?_, ?_⟩
  · have hr := X.room
    have hb := X.book
    have h1 := X.heapSize
    have h2 := X.used
    simp only [State.hasRoom, Bool.and_eq_true, decide_eq_true_eq] at hr ⊢
    obtain ⟨⟨⟨⟨r1, r2, r3, r4, r5, r6⟩, r7⟩, r8⟩, r9⟩ := hr
    have hFl : ((T.setVm s.vm).setFrames (.invoking m args :: below)).frames.length = s.frames.length := by rw [hF, X.frames]
    refine ⟨⟨⟨⟨?_, ?_, ?_, ?_, ?_, ?_⟩, ?_⟩, ?_⟩, ?_⟩
    · rw [hlo]; exact r1
    · rw [hFl]; exact r2
    · rw [hFl, hlim]; exact r3
    · rw [hlo]; exact r4
    · rw [hlo, hlim]; exact r5
    · rw [hby]; exact r6
    · show T.heap.size + k' ≤ _
      omega
    · show T.slotsUsed + n' ≤ _
      omega
    · exact hb
  · have := X.hears
    cases below with
    | nil => exact this
    | cons f r => cases f <;> exact this
  · exact X.warmed
  · rw [hlim]; exact X.limits
  · rw [hby]; exact X.bytes
  · have h := (State.sameButNew.refl ((T.setVm s.vm).setFrames (.invoking m args :: below)) ht).setFrames T.frames (State.cur_lt_of_frames hF)
    rw [State.setFrames_setFrames] at h
    have e1 : (T.setVm s.vm).setFrames T.frames = T.setVm s.vm := by
      obtain ⟨t', ht', -⟩ := State.frames_cons hfr
      exact State.setFrames_self (s := T.setVm s.vm) ht'
    rw [e1] at h
    exact h
theorem g_throw (O : cd_Ok G y cc nL ret [] R C) (hst : l.stackTraces = false) {mc ms E ik is ic : Nat} {tx : String} {Q : cd_Out → cd_Wd → Prop} (hE : cd_Ew E) (hfit : Bundle.fit (cd_ex E) = true)
    (hk : Cond.classLink y.cls ik (cd_ex E) ∈ lw_tbl ∧ cd_gw (Cond.classLink y.cls ik (cd_ex E)) = true) (hi : Cond.instantiable (cd_ex E) 6 ∈ lw_tbl ∧ cd_gw (Cond.instantiable (cd_ex E) 6) = true) (hini : Cond.initialized (cd_ex E) ∈ lw_tbl ∧ cd_gw (Cond.initialized (cd_ex E)) = true) (hm : Cond.methodLink y.cls ic (Bundle.initS (cd_ex E)) ∈ lw_tbl ∧ cd_gw (Cond.methodLink y.cls ic (Bundle.initS (cd_ex E))) = true) (hs : (y.cls, is, tx) ∈ cd_str)
    (d0 : decode cc pc = .ok (.new ik, 3)) (d3 : decode cc (pc + 3) = .ok (.dup, 1)) (d4 : decode cc (pc + 4) = .ok (.ldc is, 2)) (d6 : decode cc (pc + 6) = .ok (.invokespecial ic, 3)) (d9 : decode cc (pc + 9) = .ok (.athrow, 1)) (hlv : lv.length = nL)
    (hR1 : 5 < R.frames) (hR2 : (rest.map fun v => v.category).sum + 1 + 81 ≤ R.locals) (hR3 : k + 1 ≤ R.cells) (hR4 : n + 6 ≤ R.slots) (hmc : k + 1 ≤ mc) (hms : n + 6 ≤ ms) (hq : Q (.inr E) w) :
    cd_Go G l C (cd_MQ G (cx_s C) (cx_b C) mc ms Q) k n w pc lv rest := by
  intro H locs ls a1 b1 c1 T0 hT0 X0
  obtain ⟨o1, o2, o3, o4, o5, o6, o7, o8, o9, o10, o11⟩ := id O
  have Y0 := cd_anew X0 (k' := 1) (n' := 6) (by rw [o10]; exact hR3) (by rw [o10]; exact hR4)
  generalize hs' : (T0.setVm (cx_s C).vm).setFrames (.invoking (cx_m C) (cx_a C) :: cx_b C) = s' at Y0
  have hvm : s'.vm = (cx_s C).vm := by rw [← hs']; rfl
  have hhp : s'.heap = H := by rw [← hs']; exact hT0
  have hW0 : (cx_s C).WarmedH s'.vm := by rw [hvm]; exact State.WarmedH.refl _
  have O' : cd_Ok G y cc nL ret [] { frames := R.frames, cells := 1, slots := 6, locals := R.locals } (cx_p C, cx_e C, { frames := (cx_R C).frames, cells := 1, slots := 6, locals := (cx_R C).locals }, s', cx_m C, cx_a C, cx_b C, cx_h C, cx_c C) :=
    ⟨o1, o2, o3, by show s'.vm.findClass _ = _; rw [hvm]; exact o4, o5, o6, o7, o8.warm hW0, o9, by show Room.mk _ _ _ _ = _; rw [o10], by show cd_H0 G s'.heap; rw [hhp]; exact a1.h0⟩
  obtain ⟨cC, kC0, hfc, -⟩ := Cond.instantiable_spec (cd_word O' hi)
  obtain ⟨sa, hsa⟩ := O'.2.2.2.2.2.2.2.1.2.2.2.1 _ hs
  have hge : s'.heap.size ≤ H.size := by rw [hhp]; exact Nat.le_refl _
  obtain ⟨U, st, hrun, hend, hW, hsame, ce, hce, hown⟩ : ∃ U : State, Steps (cx_p C).tables (cx_e C) (cx_b C) (T0.setTop (F0 (cx_m C) pc ls rest)) U ∧ U.status = .running ∧ Ended U (cx_b C) (.threw H.size) ∧ s'.WarmedH U.vm ∧ s'.sameButNew ({ U with vm := s'.vm } : State) [] 1 6 ∧ ∃ ce, U.heap[H.size]? = some ce ∧ ce.vm = .none ∧ ce.cls = cC := by
    refine (W.newcK (Q := fun U => U.status = .running ∧ Ended U (cx_b C) (.threw H.size) ∧ s'.WarmedH U.vm ∧ s'.sameButNew ({ U with vm := s'.vm } : State) [] 1 6 ∧ ∃ ce, U.heap[H.size]? = some ce ∧ ce.vm = .none ∧ ce.cls = cC) (g := F0 (cx_m C) pc ls rest) o1 o2 O'.2.2.2.1 (cd_word O' hk) (cd_word O' hi) (cd_word O' hini) rfl d0 (Nat.le_refl 1) (Nat.le_refl 6) hfc rfl fun H1 kC hkC e1 z1 q1 => ?_) T0 hT0 Y0
    refine lv_dup o1 o2 d3 rfl ?_
    refine va_ldcS o1 o2 O'.2.2.2.1 hsa d4 ?_
    intro T hT X
    have htr : (cx_e C).platform.stackTraces = false := (show (cx_e C).platform.stackTraces = l.stackTraces by rw [X.admits.platform]).trans hst
    have hex : (cx_c C).exceptionTable.toList = [] := List.map_eq_nil_iff.mp o9
    have hsz : ls.size = (cx_c C).maxLocals := by rw [c1.1, hlv, o3]
    exact cd_cth X o1 htr O'.2.2.2.1 (E := E) (ic := ic) hfit (cd_word O' hm) (cd_atoms O' hE) rfl hfc hkC (a := H.size) (by rw [hT]; exact e1) hge (msg := .ref sa) rfl
      (g := F0 (cx_m C) (pc + 6) ls (.ref sa :: .ref H.size :: .ref H.size :: rest)) rfl hsz rfl rfl (rest := rest) rfl (by rw [o2]; exact d6) (by rw [o2]; exact d9) (fun x hx => by rw [hex] at hx; cases hx) (by show _ < (cx_R C).frames; rw [o10]; exact hR1) (by
        show 2 * 0 + ((Value.ref H.size :: rest).map fun v => v.category).sum + 81 ≤ (cx_R C).locals
        rw [o10, List.map_cons, List.sum_cons]
        have h1 : (Value.ref H.size).category = 1 := rfl
        omega) o6
  have hsz1 : H.size ≤ U.heap.size ∧ ∀ q, q < H.size → U.heap[q]? = H[q]? := by
    obtain ⟨-, h2, -, -, -, h6⟩ := hsame
    rw [hhp] at h2 h6
    refine ⟨h2, fun q hq => ?_⟩
    obtain ⟨c', g1, g2, g3, g4⟩ := h6 q _ (Array.getElem?_eq_getElem hq)
    have hss : c'.slots = H[q].slots := Array.ext_getElem? fun i => g4 i (fun h => by cases h)
    have hcc : c' = H[q] := by rw [hss] at g2; exact g2
    have g1' : U.heap[q]? = some c' := g1
    rw [g1', hcc, Array.getElem?_eq_getElem hq]
  have hsz2 : U.heap.size ≤ H.size + 1 := by
    obtain ⟨-, -, h3, -⟩ := hsame
    rw [hhp] at h3
    exact h3
  refine ⟨U, st, .threw H.size, locs, hrun, hend, ?_, ?_, b1, w, E, ce, a1.grow hsz1.1 hsz1.2 (fun q c hq hc => ?_), hce, hown.1, a1.1, ?_, hq⟩
  · exact State.WarmedH.trans hW0 hW
  · have h9 : (T0.setVm (cx_s C).vm).sameButNew ({ U with vm := (cx_s C).vm } : State) [] 1 6 := by
      rw [hvm, ← hs'] at hsame
      obtain ⟨g1, g2⟩ := hsame
      refine ⟨?_, g2⟩
      rw [State.setFrames_setFrames] at g1
      exact g1
    have h8 := X0.same.trans h9
    rw [List.append_nil] at h8
    exact h8.weaken (fun _ h _ => h) hmc hms
  · have hlt := (Array.getElem?_eq_some_iff.mp hc).1
    have : q = H.size := by omega
    subst this
    rw [hce] at hc
    cases hc
    rw [hown.1]; rfl
  · rw [hown.2, ← hvm]; exact hfc
theorem cd_ldcSW {p : Program} {e : Env} {R : Room} {s : State} {m : MethodId} {args : Array Value} {below : List Frame} {meth : Method} {c : Code} {H : Heap} {locs : List Loc} {cells slots : Nat} {Q : State → Prop} {cc : ByteArray} {pc : Nat} {ls : Array Slot} {rest : List Value} (hexec : p.tables.exec = Jvm.exec) (hb : c.code = cc) {own tx : String} {index q : Nat} (hown : s.vm.findClass own = some m.cls) (hZ : vk_R own index tx q s) (hdg : decode cc pc = .ok (.ldc_w index, 3))
    (k : W p l e R s m args below meth c H locs cells slots Q (F0 m (pc + 3) ls (.ref q :: rest))) : W p l e R s m args below meth c H locs cells slots Q (F0 m pc ls rest) := by
  intro T hT X
  obtain ⟨t, a1, b1⟩ := k T hT X
  exact ⟨t, X.ldcStringW hexec hown (text := tx) (a := q) hZ.1 hZ.2 (g := F0 m pc ls rest) rfl (by rw [hb]; exact hdg) t a1, b1⟩
theorem g_throwW (O : cd_Ok G y cc nL ret [] R C) (hst : l.stackTraces = false) {mc ms E ik is ic : Nat} {tx : String} {Q : cd_Out → cd_Wd → Prop} (hE : cd_Ew E) (hfit : Bundle.fit (cd_ex E) = true)
    (hk : Cond.classLink y.cls ik (cd_ex E) ∈ lw_tbl ∧ cd_gw (Cond.classLink y.cls ik (cd_ex E)) = true) (hi : Cond.instantiable (cd_ex E) 6 ∈ lw_tbl ∧ cd_gw (Cond.instantiable (cd_ex E) 6) = true) (hini : Cond.initialized (cd_ex E) ∈ lw_tbl ∧ cd_gw (Cond.initialized (cd_ex E)) = true) (hm : Cond.methodLink y.cls ic (Bundle.initS (cd_ex E)) ∈ lw_tbl ∧ cd_gw (Cond.methodLink y.cls ic (Bundle.initS (cd_ex E))) = true) (hs : (y.cls, is, tx) ∈ cd_str)
    (d0 : decode cc pc = .ok (.new ik, 3)) (d3 : decode cc (pc + 3) = .ok (.dup, 1)) (d4 : decode cc (pc + 4) = .ok (.ldc_w is, 3)) (d6 : decode cc (pc + 7) = .ok (.invokespecial ic, 3)) (d9 : decode cc (pc + 10) = .ok (.athrow, 1)) (hlv : lv.length = nL)
    (hR1 : 5 < R.frames) (hR2 : (rest.map fun v => v.category).sum + 1 + 81 ≤ R.locals) (hR3 : k + 1 ≤ R.cells) (hR4 : n + 6 ≤ R.slots) (hmc : k + 1 ≤ mc) (hms : n + 6 ≤ ms) (hq : Q (.inr E) w) :
    cd_Go G l C (cd_MQ G (cx_s C) (cx_b C) mc ms Q) k n w pc lv rest := by
  intro H locs ls a1 b1 c1 T0 hT0 X0
  obtain ⟨o1, o2, o3, o4, o5, o6, o7, o8, o9, o10, o11⟩ := id O
  have Y0 := cd_anew X0 (k' := 1) (n' := 6) (by rw [o10]; exact hR3) (by rw [o10]; exact hR4)
  generalize hs' : (T0.setVm (cx_s C).vm).setFrames (.invoking (cx_m C) (cx_a C) :: cx_b C) = s' at Y0
  have hvm : s'.vm = (cx_s C).vm := by rw [← hs']; rfl
  have hhp : s'.heap = H := by rw [← hs']; exact hT0
  have hW0 : (cx_s C).WarmedH s'.vm := by rw [hvm]; exact State.WarmedH.refl _
  have O' : cd_Ok G y cc nL ret [] { frames := R.frames, cells := 1, slots := 6, locals := R.locals } (cx_p C, cx_e C, { frames := (cx_R C).frames, cells := 1, slots := 6, locals := (cx_R C).locals }, s', cx_m C, cx_a C, cx_b C, cx_h C, cx_c C) :=
    ⟨o1, o2, o3, by show s'.vm.findClass _ = _; rw [hvm]; exact o4, o5, o6, o7, o8.warm hW0, o9, by show Room.mk _ _ _ _ = _; rw [o10], by show cd_H0 G s'.heap; rw [hhp]; exact a1.h0⟩
  obtain ⟨cC, kC0, hfc, -⟩ := Cond.instantiable_spec (cd_word O' hi)
  obtain ⟨sa, hsa⟩ := O'.2.2.2.2.2.2.2.1.2.2.2.1 _ hs
  have hge : s'.heap.size ≤ H.size := by rw [hhp]; exact Nat.le_refl _
  obtain ⟨U, st, hrun, hend, hW, hsame, ce, hce, hown⟩ : ∃ U : State, Steps (cx_p C).tables (cx_e C) (cx_b C) (T0.setTop (F0 (cx_m C) pc ls rest)) U ∧ U.status = .running ∧ Ended U (cx_b C) (.threw H.size) ∧ s'.WarmedH U.vm ∧ s'.sameButNew ({ U with vm := s'.vm } : State) [] 1 6 ∧ ∃ ce, U.heap[H.size]? = some ce ∧ ce.vm = .none ∧ ce.cls = cC := by
    refine (W.newcK (Q := fun U => U.status = .running ∧ Ended U (cx_b C) (.threw H.size) ∧ s'.WarmedH U.vm ∧ s'.sameButNew ({ U with vm := s'.vm } : State) [] 1 6 ∧ ∃ ce, U.heap[H.size]? = some ce ∧ ce.vm = .none ∧ ce.cls = cC) (g := F0 (cx_m C) pc ls rest) o1 o2 O'.2.2.2.1 (cd_word O' hk) (cd_word O' hi) (cd_word O' hini) rfl d0 (Nat.le_refl 1) (Nat.le_refl 6) hfc rfl fun H1 kC hkC e1 z1 q1 => ?_) T0 hT0 Y0
    refine lv_dup o1 o2 d3 rfl ?_
    refine cd_ldcSW o1 o2 O'.2.2.2.1 hsa d4 ?_
    intro T hT X
    have htr : (cx_e C).platform.stackTraces = false := (show (cx_e C).platform.stackTraces = l.stackTraces by rw [X.admits.platform]).trans hst
    have hex : (cx_c C).exceptionTable.toList = [] := List.map_eq_nil_iff.mp o9
    have hsz : ls.size = (cx_c C).maxLocals := by rw [c1.1, hlv, o3]
    exact cd_cth X o1 htr O'.2.2.2.1 (E := E) (ic := ic) hfit (cd_word O' hm) (cd_atoms O' hE) rfl hfc hkC (a := H.size) (by rw [hT]; exact e1) hge (msg := .ref sa) rfl
      (g := F0 (cx_m C) (pc + 7) ls (.ref sa :: .ref H.size :: .ref H.size :: rest)) rfl hsz rfl rfl (rest := rest) rfl (by rw [o2]; exact d6) (by rw [o2]; exact d9) (fun x hx => by rw [hex] at hx; cases hx) (by show _ < (cx_R C).frames; rw [o10]; exact hR1) (by
        show 2 * 0 + ((Value.ref H.size :: rest).map fun v => v.category).sum + 81 ≤ (cx_R C).locals
        rw [o10, List.map_cons, List.sum_cons]
        have h1 : (Value.ref H.size).category = 1 := rfl
        omega) o6
  have hsz1 : H.size ≤ U.heap.size ∧ ∀ q, q < H.size → U.heap[q]? = H[q]? := by
    obtain ⟨-, h2, -, -, -, h6⟩ := hsame
    rw [hhp] at h2 h6
    refine ⟨h2, fun q hq => ?_⟩
    obtain ⟨c', g1, g2, g3, g4⟩ := h6 q _ (Array.getElem?_eq_getElem hq)
    have hss : c'.slots = H[q].slots := Array.ext_getElem? fun i => g4 i (fun h => by cases h)
    have hcc : c' = H[q] := by rw [hss] at g2; exact g2
    have g1' : U.heap[q]? = some c' := g1
    rw [g1', hcc, Array.getElem?_eq_getElem hq]
  have hsz2 : U.heap.size ≤ H.size + 1 := by
    obtain ⟨-, -, h3, -⟩ := hsame
    rw [hhp] at h3
    exact h3
  refine ⟨U, st, .threw H.size, locs, hrun, hend, ?_, ?_, b1, w, E, ce, a1.grow hsz1.1 hsz1.2 (fun q c hq hc => ?_), hce, hown.1, a1.1, ?_, hq⟩
  · exact State.WarmedH.trans hW0 hW
  · have h9 : (T0.setVm (cx_s C).vm).sameButNew ({ U with vm := (cx_s C).vm } : State) [] 1 6 := by
      rw [hvm, ← hs'] at hsame
      obtain ⟨g1, g2⟩ := hsame
      refine ⟨?_, g2⟩
      rw [State.setFrames_setFrames] at g1
      exact g1
    have h8 := X0.same.trans h9
    rw [List.append_nil] at h8
    exact h8.weaken (fun _ h _ => h) hmc hms
  · have hlt := (Array.getElem?_eq_some_iff.mp hc).1
    have : q = H.size := by omega
    subst this
    rw [hce] at hc
    cases hc
    rw [hown.1]; rfl
  · rw [hown.2, ← hvm]; exact hfc
end Thr
/-! ===== A CATCH: the search through the table of handlers ===== -/
def cd_cov (z : Nat × Nat × Nat × Nat) (pc : Nat) : Bool := decide (z.1 ≤ pc) && decide (pc < z.2.1)
def cd_Sk (pl : Platform) (s0 : State) (d : ClassId) (pc : Nat) (th : ClassId) (hp : Nat) : List (Nat × Nat × Nat × Nat) → Prop
  | [] => False
  | z :: t => (cd_cov z pc = false ∧ cd_Sk pl s0 d pc th hp t) ∨ (cd_cov z pc = true ∧ z.2.2.2 ≠ 0 ∧ ∃ c, s0.vm.ClassLinks pl d z.2.2.2 c ∧ ((s0.vm.assignable th c = true ∧ z.2.2.1 = hp) ∨ (s0.vm.assignable th c = false ∧ cd_Sk pl s0 d pc th hp t)))
theorem cd_seek {e : Env} {s0 : State} {f : JFrame} {x hp : Nat} {ce : Cell} (hobj : ∀ k, ce.vm ≠ .statics k) (hk0 : ∃ k, s0.vm.classes[ce.cls]? = some k) :
    ∀ (tb : List ExceptionTableEntry) (S : State), s0.WarmedH S.vm → S.heap[x]? = some ce → cd_Sk e.platform s0 f.method.cls f.pc ce.cls hp (tb.map fun h => (h.startPc, h.endPc, h.handlerPc, h.catchType)) →
      ∃ vm', s0.WarmedH vm' ∧ ∀ (Q : Handler → Pre) (E : CtlPost) (d : Bool) (acts : List Action), wp (findHandler.go f x tb) Q E e d acts S ↔ Q (.found hp) d acts (S.setVm vm') := by
  obtain ⟨k0, hk0⟩ := hk0
  intro tb
  induction tb with
  | nil => intro S _ _ h; exact h.elim
  | cons z t ih =>
    intro S hW hcell h
    rcases h with ⟨hc, h⟩ | ⟨hc, hz0, c, hl, h⟩
    · obtain ⟨vm', hW', hq⟩ := ih S hW hcell h
      exact ⟨vm', hW', fun Q E d acts => (W.findHandler_go_skip hc).trans (hq Q E d acts)⟩
    · have hcov : covers z f.pc = true := hc
      simp only [covers] at hcov
      obtain ⟨dk, _, _, kt, hd, _, _, _, _, hkt, _, hopen⟩ := hl.here
      have hWn := hW.noted hd hopen (State.rightAt_cls hl)
      obtain ⟨ha, ht⟩ := (resolveClass_links e.toSetting (hW.classLinks hl)).op (op := VmOp.resolveClass f.method.cls z.catchType) rfl
      obtain ⟨k1, hk1, -⟩ := hWn.alike.2.2 _ _ hk0
      obtain ⟨k2, hk2, -⟩ := hWn.alike.2.2 _ _ hkt
      have hz0' : ¬ z.catchType = 0 := hz0
      rcases h with ⟨hfit, hpp⟩ | ⟨hno, h⟩
      · have hfit' : (S.vm.noted f.method.cls z.catchType (.cls c)).assignable ce.cls c = true := by rw [hWn.alike.assignable]; exact hfit
        refine ⟨_, hWn, fun Q E d acts => ?_⟩
        rw [← hpp]
        simp [findHandler.go, hcov, hz0', ha, ht, hcell, hobj, hk1, hk2, hfit', VmOp.dirties, VmOp.acts]
      · have hno' : (S.vm.noted f.method.cls z.catchType (.cls c)).assignable ce.cls c = false := by rw [hWn.alike.assignable]; exact hno
        obtain ⟨vm', hW', hq⟩ := ih (S.setVm (S.vm.noted f.method.cls z.catchType (.cls c))) hWn hcell h
        refine ⟨vm', hW', fun Q E d acts => ?_⟩
        refine Iff.trans ?_ (hq Q E d acts)
        simp [findHandler.go, hcov, hz0', ha, ht, hcell, hobj, hk1, hk2, hno', VmOp.dirties, VmOp.acts]
section Catch
variable {G : cd_Gl} {l : Launch} {C : cd_Cx} {Q : State → Prop} {k n : Nat} {w : cd_Wd} {pc : Nat} {lv : List (Option Value)} {y : MethodName} {cc : ByteArray} {nL : Nat} {ret : Option FieldType} {ex : List (Nat × Nat × Nat × Nat)} {R : Room}
/-- one step: the frame goes on at the handler -/
theorem cd_caught {tb : Tables} {e : Env} {s target : State} {g : JFrame} {c : Code} {below : List Frame} {x hp : Nat} {vm' : Vm} (h : At s g.method c below)
    (hf : ∀ (Q : Handler → Pre) (E : CtlPost) (d : Bool) (acts : List Action), wp (findHandler g x) Q E e d acts ((s.setTop g).pushFrame (.throwing x)) ↔ Q (.found hp) d acts (((s.setTop g).pushFrame (.throwing x)).setVm vm'))
    (hr : Steps tb e below ((s.setVm vm').setTop { g with pc := hp, stack := [.ref x] }) target) : Steps tb e below ((s.setTop g).pushFrame (.throwing x)) target := by
  obtain ⟨hgo, hw⟩ := h.throwing x
  refine Steps.head hgo hw ?_
  rw [stepThread_throwing (frames_entered h.top _)]
  have hst : (stepThrowing e ((s.setTop g).pushFrame (.throwing x)) x (.java g :: s.frames.tail)).1 = (((s.setTop g).pushFrame (.throwing x)).setVm vm').setFrames (.java { g with pc := hp, stack := [.ref x] } :: s.frames.tail) := by
    simp only [stepThrowing, searchFrame, vmDo]
    generalize hres : Sem.go _ e false [] ((s.setTop g).pushFrame (.throwing x)) = res
    obtain ⟨as, rfl, ha⟩ := Sem.eq_ok_of hres (a := Handler.found hp) (s' := ((s.setTop g).pushFrame (.throwing x)).setVm vm') (acts' := []) (by simp [hf _ _ _ _])
    rfl
  rw [hst]
  obtain ⟨g₀, hg⟩ := Option.isSome_iff_exists.mp h.top
  obtain ⟨r, hfr⟩ := State.topJava?_eq_some.mp hg
  have hfr' : (s.setVm vm').frames = .java g₀ :: r := hfr
  rw [State.setTop_of_frames _ hfr'] at hr
  have e1 : (((s.setTop g).pushFrame (.throwing x)).setVm vm').setFrames (.java { g with pc := hp, stack := [.ref x] } :: s.frames.tail) = (s.setVm vm').setFrames (.java { g with pc := hp, stack := [.ref x] } :: r) := by
    rw [hfr, List.tail_cons, State.pushFrame, State.setTop_of_frames _ hfr]
    show (((s.setFrames _).setFrames _).setVm vm').setFrames _ = _
    rw [State.setFrames_setFrames]
    show ((s.setVm vm').setFrames _).setFrames _ = _
    rw [State.setFrames_setFrames]
  rw [e1]
  exact hr
/-- caught: the way through the table -/
theorem gx_catch (O : cd_Ok G y cc nL ret ex R C) {E : Nat} (hp : Nat) (hsk : ∀ th, (cx_s C).vm.findClass (cd_ex E) = some th → ∀ pl : Platform, pl.magicAccessors = ({} : Platform).magicAccessors → cd_Sk pl (cx_s C) (cx_m C).cls pc th hp ex)
    (h : ∀ x, cd_Go G l C Q k n w hp lv [.ref x]) : cd_Gx G l C Q k n w pc lv E := by
  intro T locs ls st x ce hH hl hls h1 h2 h3 h4 X
  have hpl : (cx_e C).platform.magicAccessors = ({} : Platform).magicAccessors := by rw [X.admits.platform]
  obtain ⟨k9, h9, -⟩ := Vm.findClass_spec h4
  have hsk' := hsk ce.cls h4 _ hpl
  rw [← O.2.2.2.2.2.2.2.2.1] at hsk'
  obtain ⟨vm', hW', hq⟩ := cd_seek (e := cx_e C) (f := F0 (cx_m C) pc ls st) (fun z hz => by rw [h2] at hz; cases hz) ⟨k9, h9⟩ (cx_c C).exceptionTable.toList ((T.setTop (F0 (cx_m C) pc ls st)).pushFrame (.throwing x)) (by rw [Stand.throwing_vm]; exact X.warmed) (by rw [Stand.throwing_heap]; exact h1) hsk'
  obtain ⟨t, s1, s2⟩ := h x T.heap locs ls hH hl hls (T.setVm vm') rfl (X.noted hW')
  refine ⟨t, cd_caught (g := F0 (cx_m C) pc ls st) X.here (fun Q E d acts => ?_) s1, s2⟩
  rw [W.findHandler_eq (meth := cx_h C) (code := cx_c C) (by rw [Stand.throwing_vm]; exact X.method') X.code]
  exact hq Q E d acts
/-- the steps of a search, out of the words -/
theorem sk_skip {pl : Platform} {s0 : State} {d : ClassId} {th : ClassId} {hp : Nat} {z : Nat × Nat × Nat × Nat} {t : List (Nat × Nat × Nat × Nat)} (hc : cd_cov z pc = false) (h : cd_Sk pl s0 d pc th hp t) : cd_Sk pl s0 d pc th hp (z :: t) := Or.inl ⟨hc, h⟩
theorem sk_hit {pl : Platform} (hpl : pl.magicAccessors = ({} : Platform).magicAccessors) (O : cd_Ok G y cc nL ret ex R C) {th : ClassId} {nm : String} (hth : (cx_s C).vm.findClass nm = some th) {z : Nat × Nat × Nat × Nat} {t : List (Nat × Nat × Nat × Nat)} (hc : cd_cov z pc = true) (h0 : z.2.2.2 ≠ 0)
    (hl : Cond.classLink y.cls z.2.2.2 nm ∈ lw_tbl ∧ cd_gw (Cond.classLink y.cls z.2.2.2 nm) = true) (hk : Cond.castable nm nm ∈ lw_tbl ∧ cd_gw (Cond.castable nm nm) = true) : cd_Sk pl (cx_s C) (cx_m C).cls pc th z.2.2.1 (z :: t) := by
  obtain ⟨c5, hc5, hcl5⟩ := Cond.classLink_spec O.2.2.2.1 (cd_word O hl) pl hpl
  obtain ⟨c3, c4, hc3, hc4, hasg⟩ := Cond.castable_spec (cd_word O hk)
  cases Option.some.inj (hc3.symm.trans hth)
  cases Option.some.inj (hc4.symm.trans hc5)
  exact Or.inr ⟨hc, h0, _, hcl5, Or.inl ⟨hasg, rfl⟩⟩
theorem sk_pass {pl : Platform} (hpl : pl.magicAccessors = ({} : Platform).magicAccessors) (O : cd_Ok G y cc nL ret ex R C) {th : ClassId} {hp : Nat} {nm nm' : String} (hth : (cx_s C).vm.findClass nm = some th) {z : Nat × Nat × Nat × Nat} {t : List (Nat × Nat × Nat × Nat)} (hc : cd_cov z pc = true) (h0 : z.2.2.2 ≠ 0)
    (hl : Cond.classLink y.cls z.2.2.2 nm' ∈ lw_tbl ∧ cd_gw (Cond.classLink y.cls z.2.2.2 nm') = true) (hk : va_Nc nm nm' (cx_s C)) (h : cd_Sk pl (cx_s C) (cx_m C).cls pc th hp t) : cd_Sk pl (cx_s C) (cx_m C).cls pc th hp (z :: t) := by
  obtain ⟨c5, hc5, hcl5⟩ := Cond.classLink_spec O.2.2.2.1 (cd_word O hl) pl hpl
  obtain ⟨c3, c4, hc3, hc4, hasg⟩ := hk
  cases Option.some.inj (hc3.symm.trans hth)
  cases Option.some.inj (hc4.symm.trans hc5)
  exact Or.inr ⟨hc, h0, _, hcl5, Or.inr ⟨hasg, h⟩⟩
end Catch
end
