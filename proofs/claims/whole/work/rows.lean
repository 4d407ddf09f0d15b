section
-- ===== PART A: goes FIRST, ahead of the names: the tables' words, and 'selects' of the private methods out of them =====
/-- a private method of a class that the tables say can be made, by its rows of tables_1 -/
def lw_okq (q : MethodName × Nat) : Prop := (q.1.cls ≠ "java/lang/invoke/MethodHandle" ∧ q.1.cls ≠ "java/lang/invoke/VarHandle") ∧ Cond.instantiable q.1.cls q.2 ∈ tables_1 ∧ Cond.privateMethod q.1 ∈ tables_1 ∧ Cond.instanceMethod q.1 ∈ tables_1
theorem lw_p0 : lw_okq (⟨"CapabilityDomains", "isField", "(III)Z"⟩, 5) := ⟨⟨by decide +kernel, by decide +kernel⟩, List.mem_of_getElem? (i := 18) (by decide +kernel), List.mem_of_getElem? (i := 76) (by decide +kernel), List.mem_of_getElem? (i := 77) (by decide +kernel)⟩
theorem lw_p1 : lw_okq (⟨"CapabilityDomains", "isDomain", "(I)Z"⟩, 5) := ⟨⟨by decide +kernel, by decide +kernel⟩, List.mem_of_getElem? (i := 18) (by decide +kernel), List.mem_of_getElem? (i := 80) (by decide +kernel), List.mem_of_getElem? (i := 81) (by decide +kernel)⟩
theorem lw_p2 : lw_okq (⟨"CapabilityDomains", "livingDomains", "()I"⟩, 5) := ⟨⟨by decide +kernel, by decide +kernel⟩, List.mem_of_getElem? (i := 18) (by decide +kernel), List.mem_of_getElem? (i := 107) (by decide +kernel), List.mem_of_getElem? (i := 108) (by decide +kernel)⟩
theorem lw_p3 : lw_okq (⟨"CapabilityDomains", "livingCapabilities", "()I"⟩, 5) := ⟨⟨by decide +kernel, by decide +kernel⟩, List.mem_of_getElem? (i := 18) (by decide +kernel), List.mem_of_getElem? (i := 111) (by decide +kernel), List.mem_of_getElem? (i := 112) (by decide +kernel)⟩
theorem lw_p4 : lw_okq (⟨"CapabilityDomains", "objectsOf", "(I)I"⟩, 5) := ⟨⟨by decide +kernel, by decide +kernel⟩, List.mem_of_getElem? (i := 18) (by decide +kernel), List.mem_of_getElem? (i := 115) (by decide +kernel), List.mem_of_getElem? (i := 116) (by decide +kernel)⟩
theorem lw_p5 : lw_okq (⟨"java/lang/Throwable", "fillInStackTrace", "(I)Ljava/lang/Throwable;"⟩, 6) := ⟨⟨by decide +kernel, by decide +kernel⟩, List.mem_of_getElem? (i := 172) (by decide +kernel), List.mem_of_getElem? (i := 170) (by decide +kernel), List.mem_of_getElem? (i := 171) (by decide +kernel)⟩
theorem lw_p6 : lw_okq (⟨"CapabilityDomains", "livingDomain", "(I)LCapabilityDomains$Domain;"⟩, 5) := ⟨⟨by decide +kernel, by decide +kernel⟩, List.mem_of_getElem? (i := 18) (by decide +kernel), List.mem_of_getElem? (i := 273) (by decide +kernel), List.mem_of_getElem? (i := 274) (by decide +kernel)⟩
theorem lw_p7 : lw_okq (⟨"CapabilityDomains", "requireSlot", "(II)V"⟩, 5) := ⟨⟨by decide +kernel, by decide +kernel⟩, List.mem_of_getElem? (i := 18) (by decide +kernel), List.mem_of_getElem? (i := 402) (by decide +kernel), List.mem_of_getElem? (i := 403) (by decide +kernel)⟩
theorem lw_p8 : lw_okq (⟨"CapabilityDomains", "requireCapabilityLeft", "()V"⟩, 5) := ⟨⟨by decide +kernel, by decide +kernel⟩, List.mem_of_getElem? (i := 18) (by decide +kernel), List.mem_of_getElem? (i := 411) (by decide +kernel), List.mem_of_getElem? (i := 412) (by decide +kernel)⟩
theorem lw_p9 : lw_okq (⟨"CapabilityDomains", "putNew", "(LCapabilityDomains$Capability;LCapabilityDomains$Domain;I)I"⟩, 5) := ⟨⟨by decide +kernel, by decide +kernel⟩, List.mem_of_getElem? (i := 18) (by decide +kernel), List.mem_of_getElem? (i := 448) (by decide +kernel), List.mem_of_getElem? (i := 449) (by decide +kernel)⟩
theorem lw_p10 : lw_okq (⟨"CapabilityDomains", "spreadDeath", "()I"⟩, 5) := ⟨⟨by decide +kernel, by decide +kernel⟩, List.mem_of_getElem? (i := 18) (by decide +kernel), List.mem_of_getElem? (i := 500) (by decide +kernel), List.mem_of_getElem? (i := 501) (by decide +kernel)⟩
theorem lw_p11 : lw_okq (⟨"CapabilityDomains", "usable", "(III)LCapabilityDomains$Capability;"⟩, 5) := ⟨⟨by decide +kernel, by decide +kernel⟩, List.mem_of_getElem? (i := 18) (by decide +kernel), List.mem_of_getElem? (i := 516) (by decide +kernel), List.mem_of_getElem? (i := 517) (by decide +kernel)⟩
theorem lw_p12 : lw_okq (⟨"CapabilityDomains$Reach", "comeTo", "(II)V"⟩, 5) := ⟨⟨by decide +kernel, by decide +kernel⟩, List.mem_of_getElem? (i := 30) (by decide +kernel), List.mem_of_getElem? (i := 557) (by decide +kernel), List.mem_of_getElem? (i := 558) (by decide +kernel)⟩
theorem lw_p13 : lw_okq (⟨"CapabilityDomains$Reach", "copyFields", "(LCapabilityDomains$DomainObject;LCapabilityDomains$DomainObject;)V"⟩, 5) := ⟨⟨by decide +kernel, by decide +kernel⟩, List.mem_of_getElem? (i := 30) (by decide +kernel), List.mem_of_getElem? (i := 568) (by decide +kernel), List.mem_of_getElem? (i := 569) (by decide +kernel)⟩
theorem lw_p14 : lw_okq (⟨"CapabilityDomainsModel", "fail", "(I)I"⟩, 18) := ⟨⟨by decide +kernel, by decide +kernel⟩, List.mem_of_getElem? (i := 610) (by decide +kernel), List.mem_of_getElem? (i := 679) (by decide +kernel), List.mem_of_getElem? (i := 680) (by decide +kernel)⟩
theorem lw_p15 : lw_okq (⟨"CapabilityDomainsModel", "fine", "(I)I"⟩, 18) := ⟨⟨by decide +kernel, by decide +kernel⟩, List.mem_of_getElem? (i := 610) (by decide +kernel), List.mem_of_getElem? (i := 683) (by decide +kernel), List.mem_of_getElem? (i := 684) (by decide +kernel)⟩
def lw_privs_1 : List (MethodName × Nat) := [(⟨"CapabilityDomains", "isField", "(III)Z"⟩, 5), (⟨"CapabilityDomains", "isDomain", "(I)Z"⟩, 5), (⟨"CapabilityDomains", "livingDomains", "()I"⟩, 5), (⟨"CapabilityDomains", "livingCapabilities", "()I"⟩, 5), (⟨"CapabilityDomains", "objectsOf", "(I)I"⟩, 5), (⟨"java/lang/Throwable", "fillInStackTrace", "(I)Ljava/lang/Throwable;"⟩, 6), (⟨"CapabilityDomains", "livingDomain", "(I)LCapabilityDomains$Domain;"⟩, 5), (⟨"CapabilityDomains", "requireSlot", "(II)V"⟩, 5), (⟨"CapabilityDomains", "requireCapabilityLeft", "()V"⟩, 5), (⟨"CapabilityDomains", "putNew", "(LCapabilityDomains$Capability;LCapabilityDomains$Domain;I)I"⟩, 5), (⟨"CapabilityDomains", "spreadDeath", "()I"⟩, 5), (⟨"CapabilityDomains", "usable", "(III)LCapabilityDomains$Capability;"⟩, 5), (⟨"CapabilityDomains$Reach", "comeTo", "(II)V"⟩, 5), (⟨"CapabilityDomains$Reach", "copyFields", "(LCapabilityDomains$DomainObject;LCapabilityDomains$DomainObject;)V"⟩, 5), (⟨"CapabilityDomainsModel", "fail", "(I)I"⟩, 18), (⟨"CapabilityDomainsModel", "fine", "(I)I"⟩, 18)]
theorem lw_r1 : ∀ q ∈ lw_privs_1, lw_okq q := List.forall_mem_cons.mpr ⟨lw_p0, List.forall_mem_cons.mpr ⟨lw_p1, List.forall_mem_cons.mpr ⟨lw_p2, List.forall_mem_cons.mpr ⟨lw_p3, List.forall_mem_cons.mpr ⟨lw_p4, List.forall_mem_cons.mpr ⟨lw_p5, List.forall_mem_cons.mpr ⟨lw_p6, List.forall_mem_cons.mpr ⟨lw_p7, List.forall_mem_cons.mpr ⟨lw_p8, List.forall_mem_cons.mpr ⟨lw_p9, List.forall_mem_cons.mpr ⟨lw_p10, List.forall_mem_cons.mpr ⟨lw_p11, List.forall_mem_cons.mpr ⟨lw_p12, List.forall_mem_cons.mpr ⟨lw_p13, List.forall_mem_cons.mpr ⟨lw_p14, List.forall_mem_cons.mpr ⟨lw_p15, fun _ h => absurd h List.not_mem_nil⟩⟩⟩⟩⟩⟩⟩⟩⟩⟩⟩⟩⟩⟩⟩⟩
theorem lw_p16 : lw_okq (⟨"CapabilityDomainsModel", "noDomain", "(I)Z"⟩, 18) := ⟨⟨by decide +kernel, by decide +kernel⟩, List.mem_of_getElem? (i := 610) (by decide +kernel), List.mem_of_getElem? (i := 691) (by decide +kernel), List.mem_of_getElem? (i := 692) (by decide +kernel)⟩
theorem lw_p17 : lw_okq (⟨"CapabilityDomainsModel", "objects", "(I)I"⟩, 18) := ⟨⟨by decide +kernel, by decide +kernel⟩, List.mem_of_getElem? (i := 610) (by decide +kernel), List.mem_of_getElem? (i := 695) (by decide +kernel), List.mem_of_getElem? (i := 696) (by decide +kernel)⟩
theorem lw_p18 : lw_okq (⟨"CapabilityDomainsModel", "newObject", "(I)I"⟩, 18) := ⟨⟨by decide +kernel, by decide +kernel⟩, List.mem_of_getElem? (i := 610) (by decide +kernel), List.mem_of_getElem? (i := 699) (by decide +kernel), List.mem_of_getElem? (i := 700) (by decide +kernel)⟩
theorem lw_p19 : lw_okq (⟨"CapabilityDomainsModel", "put", "(III)V"⟩, 18) := ⟨⟨by decide +kernel, by decide +kernel⟩, List.mem_of_getElem? (i := 610) (by decide +kernel), List.mem_of_getElem? (i := 703) (by decide +kernel), List.mem_of_getElem? (i := 704) (by decide +kernel)⟩
theorem lw_p20 : lw_okq (⟨"CapabilityDomainsModel", "none", "(II)Z"⟩, 18) := ⟨⟨by decide +kernel, by decide +kernel⟩, List.mem_of_getElem? (i := 610) (by decide +kernel), List.mem_of_getElem? (i := 711) (by decide +kernel), List.mem_of_getElem? (i := 712) (by decide +kernel)⟩
theorem lw_p21 : lw_okq (⟨"CapabilityDomainsModel", "out", "(II)Z"⟩, 18) := ⟨⟨by decide +kernel, by decide +kernel⟩, List.mem_of_getElem? (i := 610) (by decide +kernel), List.mem_of_getElem? (i := 715) (by decide +kernel), List.mem_of_getElem? (i := 716) (by decide +kernel)⟩
theorem lw_p22 : lw_okq (⟨"CapabilityDomainsModel", "capability", "(IIII)I"⟩, 18) := ⟨⟨by decide +kernel, by decide +kernel⟩, List.mem_of_getElem? (i := 610) (by decide +kernel), List.mem_of_getElem? (i := 731) (by decide +kernel), List.mem_of_getElem? (i := 732) (by decide +kernel)⟩
theorem lw_p23 : lw_okq (⟨"CapabilityDomainsModel", "dead", "(I)Z"⟩, 18) := ⟨⟨by decide +kernel, by decide +kernel⟩, List.mem_of_getElem? (i := 610) (by decide +kernel), List.mem_of_getElem? (i := 739) (by decide +kernel), List.mem_of_getElem? (i := 740) (by decide +kernel)⟩
theorem lw_p24 : lw_okq (⟨"CapabilityDomainsModel", "home", "(I)I"⟩, 18) := ⟨⟨by decide +kernel, by decide +kernel⟩, List.mem_of_getElem? (i := 610) (by decide +kernel), List.mem_of_getElem? (i := 743) (by decide +kernel), List.mem_of_getElem? (i := 744) (by decide +kernel)⟩
theorem lw_p25 : lw_okq (⟨"CapabilityDomainsModel", "alive", "()I"⟩, 18) := ⟨⟨by decide +kernel, by decide +kernel⟩, List.mem_of_getElem? (i := 610) (by decide +kernel), List.mem_of_getElem? (i := 755) (by decide +kernel), List.mem_of_getElem? (i := 756) (by decide +kernel)⟩
theorem lw_p26 : lw_okq (⟨"CapabilityDomainsModel", "useFails", "(III)I"⟩, 18) := ⟨⟨by decide +kernel, by decide +kernel⟩, List.mem_of_getElem? (i := 610) (by decide +kernel), List.mem_of_getElem? (i := 763) (by decide +kernel), List.mem_of_getElem? (i := 764) (by decide +kernel)⟩
theorem lw_p27 : lw_okq (⟨"CapabilityDomainsModel", "usedUp", "(I)Z"⟩, 18) := ⟨⟨by decide +kernel, by decide +kernel⟩, List.mem_of_getElem? (i := 610) (by decide +kernel), List.mem_of_getElem? (i := 767) (by decide +kernel), List.mem_of_getElem? (i := 768) (by decide +kernel)⟩
theorem lw_p28 : lw_okq (⟨"CapabilityDomainsModel", "use", "(I)V"⟩, 18) := ⟨⟨by decide +kernel, by decide +kernel⟩, List.mem_of_getElem? (i := 610) (by decide +kernel), List.mem_of_getElem? (i := 771) (by decide +kernel), List.mem_of_getElem? (i := 772) (by decide +kernel)⟩
theorem lw_p29 : lw_okq (⟨"CapabilityDomainsModel", "gather", "(II)V"⟩, 18) := ⟨⟨by decide +kernel, by decide +kernel⟩, List.mem_of_getElem? (i := 610) (by decide +kernel), List.mem_of_getElem? (i := 783) (by decide +kernel), List.mem_of_getElem? (i := 784) (by decide +kernel)⟩
def lw_privs_2 : List (MethodName × Nat) := [(⟨"CapabilityDomainsModel", "noDomain", "(I)Z"⟩, 18), (⟨"CapabilityDomainsModel", "objects", "(I)I"⟩, 18), (⟨"CapabilityDomainsModel", "newObject", "(I)I"⟩, 18), (⟨"CapabilityDomainsModel", "put", "(III)V"⟩, 18), (⟨"CapabilityDomainsModel", "none", "(II)Z"⟩, 18), (⟨"CapabilityDomainsModel", "out", "(II)Z"⟩, 18), (⟨"CapabilityDomainsModel", "capability", "(IIII)I"⟩, 18), (⟨"CapabilityDomainsModel", "dead", "(I)Z"⟩, 18), (⟨"CapabilityDomainsModel", "home", "(I)I"⟩, 18), (⟨"CapabilityDomainsModel", "alive", "()I"⟩, 18), (⟨"CapabilityDomainsModel", "useFails", "(III)I"⟩, 18), (⟨"CapabilityDomainsModel", "usedUp", "(I)Z"⟩, 18), (⟨"CapabilityDomainsModel", "use", "(I)V"⟩, 18), (⟨"CapabilityDomainsModel", "gather", "(II)V"⟩, 18)]
theorem lw_r2 : ∀ q ∈ lw_privs_2, lw_okq q := List.forall_mem_cons.mpr ⟨lw_p16, List.forall_mem_cons.mpr ⟨lw_p17, List.forall_mem_cons.mpr ⟨lw_p18, List.forall_mem_cons.mpr ⟨lw_p19, List.forall_mem_cons.mpr ⟨lw_p20, List.forall_mem_cons.mpr ⟨lw_p21, List.forall_mem_cons.mpr ⟨lw_p22, List.forall_mem_cons.mpr ⟨lw_p23, List.forall_mem_cons.mpr ⟨lw_p24, List.forall_mem_cons.mpr ⟨lw_p25, List.forall_mem_cons.mpr ⟨lw_p26, List.forall_mem_cons.mpr ⟨lw_p27, List.forall_mem_cons.mpr ⟨lw_p28, List.forall_mem_cons.mpr ⟨lw_p29, fun _ h => absurd h List.not_mem_nil⟩⟩⟩⟩⟩⟩⟩⟩⟩⟩⟩⟩⟩⟩
def lw_privs : List (MethodName × Nat) := lw_privs_1 ++ (lw_privs_2)
def lw_tbl : List Cond := k2_sels lw_privs ++ tables_1
theorem lw_privs_ok : ∀ q ∈ lw_privs, lw_okq q := by
  show ∀ q ∈ lw_privs_1 ++ (lw_privs_2), lw_okq q
  exact List.forall_mem_append.mpr ⟨lw_r1, lw_r2⟩
end
section
def F_Cd : u_T := fun k => match k with
  | 0 => ("CapabilityDomains", "domains", "[LCapabilityDomains$Domain;", true)
  | 1 => ("CapabilityDomains", "domainsMade", "I", false)
  | 2 => ("CapabilityDomains", "capabilities", "[LCapabilityDomains$Capability;", true)
  | 3 => ("CapabilityDomains", "capabilitiesMade", "I", false)
  | _ => ("CapabilityDomains", "reach", "LCapabilityDomains$Reach;", true)
def t_Cd : Nat → FieldType := fun k => match k with
  | 0 => .array (.object "CapabilityDomains$Domain")
  | 1 => .int
  | 2 => .array (.object "CapabilityDomains$Capability")
  | 3 => .int
  | _ => .object "CapabilityDomains$Reach"
abbrev q_Cd : vw_C := ("CapabilityDomains", F_Cd, 5)
def F_Do : u_T := fun k => match k with
  | 0 => ("CapabilityDomains$Domain", "ended", "Z", false)
  | 1 => ("CapabilityDomains$Domain", "objects", "[LCapabilityDomains$DomainObject;", true)
  | _ => ("CapabilityDomains$Domain", "slots", "[LCapabilityDomains$Capability;", true)
def t_Do : Nat → FieldType := fun k => match k with
  | 0 => .boolean
  | 1 => .array (.object "CapabilityDomains$DomainObject")
  | _ => .array (.object "CapabilityDomains$Capability")
abbrev q_Do : vw_C := ("CapabilityDomains$Domain", F_Do, 3)
def F_Ob : u_T := fun k => match k with
  | 0 => ("CapabilityDomains$DomainObject", "there", "Z", false)
  | _ => ("CapabilityDomains$DomainObject", "fields", "[LCapabilityDomains$Field;", true)
def t_Ob : Nat → FieldType := fun k => match k with
  | 0 => .boolean
  | _ => .array (.object "CapabilityDomains$Field")
abbrev q_Ob : vw_C := ("CapabilityDomains$DomainObject", F_Ob, 2)
def F_Fi : u_T := fun k => match k with
  | 0 => ("CapabilityDomains$Field", "number", "I", false)
  | 1 => ("CapabilityDomains$Field", "link", "I", false)
  | _ => ("CapabilityDomains$Field", "capability", "LCapabilityDomains$Capability;", false)
def t_Fi : Nat → FieldType := fun k => match k with
  | 0 => .int
  | 1 => .int
  | _ => .object "CapabilityDomains$Capability"
abbrev q_Fi : vw_C := ("CapabilityDomains$Field", F_Fi, 3)
def F_Ca : u_T := fun k => match k with
  | 0 => ("CapabilityDomains$Capability", "home", "LCapabilityDomains$Domain;", true)
  | 1 => ("CapabilityDomains$Capability", "target", "I", true)
  | 2 => ("CapabilityDomains$Capability", "parent", "LCapabilityDomains$Capability;", true)
  | 3 => ("CapabilityDomains$Capability", "rights", "I", true)
  | 4 => ("CapabilityDomains$Capability", "uses", "I", false)
  | 5 => ("CapabilityDomains$Capability", "revoked", "Z", false)
  | _ => ("CapabilityDomains$Capability", "dead", "Z", false)
def t_Ca : Nat → FieldType := fun k => match k with
  | 0 => .object "CapabilityDomains$Domain"
  | 1 => .int
  | 2 => .object "CapabilityDomains$Capability"
  | 3 => .int
  | 4 => .int
  | 5 => .boolean
  | _ => .boolean
abbrev q_Ca : vw_C := ("CapabilityDomains$Capability", F_Ca, 7)
def F_Re : u_T := fun k => match k with
  | 0 => ("CapabilityDomains$Reach", "size", "I", false)
  | 1 => ("CapabilityDomains$Reach", "copyNumber", "[I", true)
  | 2 => ("CapabilityDomains$Reach", "order", "[I", true)
  | 3 => ("CapabilityDomains$Reach", "seen", "[Z", true)
  | _ => ("CapabilityDomains$Reach", "from", "LCapabilityDomains$Domain;", false)
def t_Re : Nat → FieldType := fun k => match k with
  | 0 => .int
  | 1 => .array (.int)
  | 2 => .array (.int)
  | 3 => .array (.boolean)
  | _ => .object "CapabilityDomains$Domain"
abbrev q_Re : vw_C := ("CapabilityDomains$Reach", F_Re, 5)
def F_Mo : u_T := fun k => match k with
  | 0 => ("CapabilityDomainsModel", "domains", "I", false)
  | 1 => ("CapabilityDomainsModel", "made", "I", false)
  | 2 => ("CapabilityDomainsModel", "code", "I", false)
  | 3 => ("CapabilityDomainsModel", "ended", "[Z", true)
  | 4 => ("CapabilityDomainsModel", "there", "[Z", true)
  | 5 => ("CapabilityDomainsModel", "sort", "[I", true)
  | 6 => ("CapabilityDomainsModel", "value", "[I", true)
  | 7 => ("CapabilityDomainsModel", "slot", "[I", true)
  | 8 => ("CapabilityDomainsModel", "target", "[I", true)
  | 9 => ("CapabilityDomainsModel", "rights", "[I", true)
  | 10 => ("CapabilityDomainsModel", "uses", "[I", true)
  | 11 => ("CapabilityDomainsModel", "parent", "[I", true)
  | 12 => ("CapabilityDomainsModel", "gone", "[Z", true)
  | 13 => ("CapabilityDomainsModel", "found", "[I", true)
  | 14 => ("CapabilityDomainsModel", "copyOf", "[I", true)
  | 15 => ("CapabilityDomainsModel", "under", "[I", true)
  | 16 => ("CapabilityDomainsModel", "next", "[I", true)
  | _ => ("CapabilityDomainsModel", "copies", "I", false)
def t_Mo : Nat → FieldType := fun k => match k with
  | 0 => .int
  | 1 => .int
  | 2 => .int
  | 3 => .array (.boolean)
  | 4 => .array (.boolean)
  | 5 => .array (.int)
  | 6 => .array (.int)
  | 7 => .array (.int)
  | 8 => .array (.int)
  | 9 => .array (.int)
  | 10 => .array (.int)
  | 11 => .array (.int)
  | 12 => .array (.boolean)
  | 13 => .array (.int)
  | 14 => .array (.int)
  | 15 => .array (.int)
  | 16 => .array (.int)
  | _ => .int
abbrev q_Mo : vw_C := ("CapabilityDomainsModel", F_Mo, 18)
def cd_cls : List vw_C := [q_Cd, q_Do, q_Ob, q_Fi, q_Ca, q_Re, q_Mo]
/-- which fields hold references -/
def cd_rf : Nat → Nat → Bool
  | 0, 0 => true
  | 0, 2 => true
  | 0, 4 => true
  | 1, 1 => true
  | 1, 2 => true
  | 2, 1 => true
  | 3, 2 => true
  | 4, 0 => true
  | 4, 2 => true
  | 5, 1 => true
  | 5, 2 => true
  | 5, 3 => true
  | 5, 4 => true
  | 6, 3 => true
  | 6, 4 => true
  | 6, 5 => true
  | 6, 6 => true
  | 6, 7 => true
  | 6, 8 => true
  | 6, 9 => true
  | 6, 10 => true
  | 6, 11 => true
  | 6, 12 => true
  | 6, 13 => true
  | 6, 14 => true
  | 6, 15 => true
  | 6, 16 => true
  | _, _ => false
def cd_ty : List FieldType := [.int, .boolean, .long, .object "CapabilityDomains$Domain", .object "CapabilityDomains$DomainObject", .object "CapabilityDomains$Field", .object "CapabilityDomains$Capability"]
def cd_tk : Nat → Nat
  | 2 => 2
  | 3 => 1
  | 4 => 1
  | 5 => 1
  | 6 => 1
  | _ => 0
def cd_ex : Nat → String
  | 1 => "java/lang/IllegalArgumentException"
  | 2 => "java/lang/IllegalStateException"
  | 3 => "java/util/NoSuchElementException"
  | 4 => "java/lang/UnsupportedOperationException"
  | 5 => "java/lang/IndexOutOfBoundsException"
  | _ => "java/lang/ArithmeticException"
def cd_up : List String := ["java/lang/RuntimeException", "java/lang/Exception"]
def cd_str : List (String × Nat × String) := [("CapabilityDomains", 34, "all domains were made"), ("CapabilityDomains", 251, "no such domain"), ("CapabilityDomains", 253, "the domain has ended"), ("CapabilityDomains", 50, "the domain is full"), ("CapabilityDomains", 104, "no such object"), ("CapabilityDomains", 255, "no such field"), ("CapabilityDomains", 75, "no such object to link to"), ("CapabilityDomains", 86, "no such slot"), ("CapabilityDomains", 257, "the slot is empty"), ("CapabilityDomains", 244, "no such domain or slot"), ("CapabilityDomains", 247, "rights or uses out of range"), ("CapabilityDomains", 249, "all capabilities were made"), ("CapabilityDomains", 120, "the capability is dead"), ("CapabilityDomains", 127, "the parent lacks a right"), ("CapabilityDomains", 141, "only the home revokes"), ("CapabilityDomains", 262, "the capability is dead or used up"), ("CapabilityDomains", 264, "the capability lacks the right"), ("CapabilityDomains", 161, "the field holds no int"), ("CapabilityDomains", 169, "no such object to pass"), ("CapabilityDomains", 178, "the home has no room for the copies"), ("CapabilityDomains", 192, "the field holds no capability")]
abbrev y_Cd_init : MethodName := ⟨"CapabilityDomains", "<init>", "()V"⟩
abbrev y_Cd_domain : MethodName := ⟨"CapabilityDomains", "domain", "()I"⟩
abbrev y_Cd_object : MethodName := ⟨"CapabilityDomains", "object", "(I)I"⟩
abbrev y_Cd_set : MethodName := ⟨"CapabilityDomains", "set", "(IIII)I"⟩
abbrev y_Cd_link : MethodName := ⟨"CapabilityDomains", "link", "(IIII)I"⟩
abbrev y_Cd_hold : MethodName := ⟨"CapabilityDomains", "hold", "(IIII)I"⟩
abbrev y_Cd_export : MethodName := ⟨"CapabilityDomains", "export", "(IIIII)I"⟩
abbrev y_Cd_narrow : MethodName := ⟨"CapabilityDomains", "narrow", "(IIII)I"⟩
abbrev y_Cd_give : MethodName := ⟨"CapabilityDomains", "give", "(IIII)I"⟩
abbrev y_Cd_revoke : MethodName := ⟨"CapabilityDomains", "revoke", "(II)I"⟩
abbrev y_Cd_read : MethodName := ⟨"CapabilityDomains", "read", "(III)I"⟩
abbrev y_Cd_write : MethodName := ⟨"CapabilityDomains", "write", "(IIII)I"⟩
abbrev y_Cd_pass : MethodName := ⟨"CapabilityDomains", "pass", "(IIII)I"⟩
abbrev y_Cd_take : MethodName := ⟨"CapabilityDomains", "take", "(IIII)I"⟩
abbrev y_Cd_free : MethodName := ⟨"CapabilityDomains", "free", "(II)I"⟩
abbrev y_Cd_end : MethodName := ⟨"CapabilityDomains", "end", "(I)I"⟩
abbrev y_Cd_holds : MethodName := ⟨"CapabilityDomains", "holds", "(III)I"⟩
abbrev y_Cd_linked : MethodName := ⟨"CapabilityDomains", "linked", "(III)I"⟩
abbrev y_Cd_slot : MethodName := ⟨"CapabilityDomains", "slot", "(II)I"⟩
abbrev y_Cd_count : MethodName := ⟨"CapabilityDomains", "count", "(I)I"⟩
abbrev y_Cd_livingDomains : MethodName := ⟨"CapabilityDomains", "livingDomains", "()I"⟩
abbrev y_Cd_livingCapabilities : MethodName := ⟨"CapabilityDomains", "livingCapabilities", "()I"⟩
abbrev y_Cd_objectsOf : MethodName := ⟨"CapabilityDomains", "objectsOf", "(I)I"⟩
abbrev y_Cd_isDomain : MethodName := ⟨"CapabilityDomains", "isDomain", "(I)Z"⟩
abbrev y_Cd_isSlot : MethodName := ⟨"CapabilityDomains", "isSlot", "(I)Z"⟩
abbrev y_Cd_isField : MethodName := ⟨"CapabilityDomains", "isField", "(III)Z"⟩
abbrev y_Cd_requireSlot : MethodName := ⟨"CapabilityDomains", "requireSlot", "(II)V"⟩
abbrev y_Cd_requireGrant : MethodName := ⟨"CapabilityDomains", "requireGrant", "(II)V"⟩
abbrev y_Cd_requireCapabilityLeft : MethodName := ⟨"CapabilityDomains", "requireCapabilityLeft", "()V"⟩
abbrev y_Cd_livingDomain : MethodName := ⟨"CapabilityDomains", "livingDomain", "(I)LCapabilityDomains$Domain;"⟩
abbrev y_Cd_fieldOf : MethodName := ⟨"CapabilityDomains", "fieldOf", "(LCapabilityDomains$Domain;II)LCapabilityDomains$Field;"⟩
abbrev y_Cd_capabilityIn : MethodName := ⟨"CapabilityDomains", "capabilityIn", "(LCapabilityDomains$Domain;I)LCapabilityDomains$Capability;"⟩
abbrev y_Cd_usable : MethodName := ⟨"CapabilityDomains", "usable", "(III)LCapabilityDomains$Capability;"⟩
abbrev y_Cd_targetField : MethodName := ⟨"CapabilityDomains", "targetField", "(LCapabilityDomains$Capability;I)LCapabilityDomains$Field;"⟩
abbrev y_Cd_putNew : MethodName := ⟨"CapabilityDomains", "putNew", "(LCapabilityDomains$Capability;LCapabilityDomains$Domain;I)I"⟩
abbrev y_Cd_spreadDeath : MethodName := ⟨"CapabilityDomains", "spreadDeath", "()I"⟩
abbrev y_Mo_init : MethodName := ⟨"CapabilityDomainsModel", "<init>", "()V"⟩
abbrev y_Mo_thrown : MethodName := ⟨"CapabilityDomainsModel", "thrown", "()I"⟩
abbrev y_Mo_fail : MethodName := ⟨"CapabilityDomainsModel", "fail", "(I)I"⟩
abbrev y_Mo_fine : MethodName := ⟨"CapabilityDomainsModel", "fine", "(I)I"⟩
abbrev y_Mo_noDomain : MethodName := ⟨"CapabilityDomainsModel", "noDomain", "(I)Z"⟩
abbrev y_Mo_out : MethodName := ⟨"CapabilityDomainsModel", "out", "(II)Z"⟩
abbrev y_Mo_none : MethodName := ⟨"CapabilityDomainsModel", "none", "(II)Z"⟩
abbrev y_Mo_home : MethodName := ⟨"CapabilityDomainsModel", "home", "(I)I"⟩
abbrev y_Mo_dead : MethodName := ⟨"CapabilityDomainsModel", "dead", "(I)Z"⟩
abbrev y_Mo_usedUp : MethodName := ⟨"CapabilityDomainsModel", "usedUp", "(I)Z"⟩
abbrev y_Mo_alive : MethodName := ⟨"CapabilityDomainsModel", "alive", "()I"⟩
abbrev y_Mo_useFails : MethodName := ⟨"CapabilityDomainsModel", "useFails", "(III)I"⟩
abbrev y_Mo_use : MethodName := ⟨"CapabilityDomainsModel", "use", "(I)V"⟩
abbrev y_Mo_put : MethodName := ⟨"CapabilityDomainsModel", "put", "(III)V"⟩
abbrev y_Mo_domain : MethodName := ⟨"CapabilityDomainsModel", "domain", "()I"⟩
abbrev y_Mo_objects : MethodName := ⟨"CapabilityDomainsModel", "objects", "(I)I"⟩
abbrev y_Mo_newObject : MethodName := ⟨"CapabilityDomainsModel", "newObject", "(I)I"⟩
abbrev y_Mo_object : MethodName := ⟨"CapabilityDomainsModel", "object", "(I)I"⟩
abbrev y_Mo_set : MethodName := ⟨"CapabilityDomainsModel", "set", "(IIII)I"⟩
abbrev y_Mo_link : MethodName := ⟨"CapabilityDomainsModel", "link", "(IIII)I"⟩
abbrev y_Mo_hold : MethodName := ⟨"CapabilityDomainsModel", "hold", "(IIII)I"⟩
abbrev y_Mo_capability : MethodName := ⟨"CapabilityDomainsModel", "capability", "(IIII)I"⟩
abbrev y_Mo_export : MethodName := ⟨"CapabilityDomainsModel", "export", "(IIIII)I"⟩
abbrev y_Mo_narrow : MethodName := ⟨"CapabilityDomainsModel", "narrow", "(IIII)I"⟩
abbrev y_Mo_give : MethodName := ⟨"CapabilityDomainsModel", "give", "(IIII)I"⟩
abbrev y_Mo_revoke : MethodName := ⟨"CapabilityDomainsModel", "revoke", "(II)I"⟩
abbrev y_Mo_read : MethodName := ⟨"CapabilityDomainsModel", "read", "(III)I"⟩
abbrev y_Mo_write : MethodName := ⟨"CapabilityDomainsModel", "write", "(IIII)I"⟩
abbrev y_Mo_gather : MethodName := ⟨"CapabilityDomainsModel", "gather", "(II)V"⟩
abbrev y_Mo_pass : MethodName := ⟨"CapabilityDomainsModel", "pass", "(IIII)I"⟩
abbrev y_Mo_take : MethodName := ⟨"CapabilityDomainsModel", "take", "(IIII)I"⟩
abbrev y_Mo_free : MethodName := ⟨"CapabilityDomainsModel", "free", "(II)I"⟩
abbrev y_Mo_end : MethodName := ⟨"CapabilityDomainsModel", "end", "(I)I"⟩
abbrev y_Mo_holds : MethodName := ⟨"CapabilityDomainsModel", "holds", "(III)I"⟩
abbrev y_Mo_linked : MethodName := ⟨"CapabilityDomainsModel", "linked", "(III)I"⟩
abbrev y_Mo_slot : MethodName := ⟨"CapabilityDomainsModel", "slot", "(II)I"⟩
abbrev y_Mo_count : MethodName := ⟨"CapabilityDomainsModel", "count", "(I)I"⟩
abbrev y_Ca_init : MethodName := ⟨"CapabilityDomains$Capability", "<init>", "(LCapabilityDomains$Domain;ILCapabilityDomains$Capability;II)V"⟩
abbrev y_Ca_allows : MethodName := ⟨"CapabilityDomains$Capability", "allows", "(I)Z"⟩
abbrev y_Ca_mustDie : MethodName := ⟨"CapabilityDomains$Capability", "mustDie", "()Z"⟩
abbrev y_Ca_isUsedUp : MethodName := ⟨"CapabilityDomains$Capability", "isUsedUp", "()Z"⟩
abbrev y_Ca_spendOneUse : MethodName := ⟨"CapabilityDomains$Capability", "spendOneUse", "()V"⟩
abbrev y_Do_init : MethodName := ⟨"CapabilityDomains$Domain", "<init>", "()V"⟩
abbrev y_Do_hasObject : MethodName := ⟨"CapabilityDomains$Domain", "hasObject", "(I)Z"⟩
abbrev y_Do_objectCount : MethodName := ⟨"CapabilityDomains$Domain", "objectCount", "()I"⟩
abbrev y_Do_makeObject : MethodName := ⟨"CapabilityDomains$Domain", "makeObject", "()I"⟩
abbrev y_Do_removeObject : MethodName := ⟨"CapabilityDomains$Domain", "removeObject", "(I)I"⟩
abbrev y_Do_replaceSlot : MethodName := ⟨"CapabilityDomains$Domain", "replaceSlot", "(ILCapabilityDomains$Capability;)I"⟩
abbrev y_Do_finish : MethodName := ⟨"CapabilityDomains$Domain", "finish", "()V"⟩
abbrev y_Ob_init : MethodName := ⟨"CapabilityDomains$DomainObject", "<init>", "()V"⟩
abbrev y_Ob_begin : MethodName := ⟨"CapabilityDomains$DomainObject", "begin", "()V"⟩
abbrev y_Ob_unlink : MethodName := ⟨"CapabilityDomains$DomainObject", "unlink", "(I)I"⟩
abbrev y_Fi_init : MethodName := ⟨"CapabilityDomains$Field", "<init>", "()V"⟩
abbrev y_Fi_isLink : MethodName := ⟨"CapabilityDomains$Field", "isLink", "()Z"⟩
abbrev y_Fi_isNumber : MethodName := ⟨"CapabilityDomains$Field", "isNumber", "()Z"⟩
abbrev y_Fi_becomeNumber : MethodName := ⟨"CapabilityDomains$Field", "becomeNumber", "(I)V"⟩
abbrev y_Fi_becomeLink : MethodName := ⟨"CapabilityDomains$Field", "becomeLink", "(I)V"⟩
abbrev y_Fi_becomeCapability : MethodName := ⟨"CapabilityDomains$Field", "becomeCapability", "(LCapabilityDomains$Capability;)V"⟩
abbrev y_Re_init : MethodName := ⟨"CapabilityDomains$Reach", "<init>", "()V"⟩
abbrev y_Re_start : MethodName := ⟨"CapabilityDomains$Reach", "start", "(LCapabilityDomains$Domain;I)V"⟩
abbrev y_Re_comeTo : MethodName := ⟨"CapabilityDomains$Reach", "comeTo", "(II)V"⟩
abbrev y_Re_copyInto : MethodName := ⟨"CapabilityDomains$Reach", "copyInto", "(LCapabilityDomains$Domain;)V"⟩
abbrev y_Re_copyFields : MethodName := ⟨"CapabilityDomains$Reach", "copyFields", "(LCapabilityDomains$DomainObject;LCapabilityDomains$DomainObject;)V"⟩
abbrev y_La_domain : MethodName := ⟨"CapabilityDomainsLaw", "domain", "(LCapabilityDomains;[J)I"⟩
abbrev y_La_object : MethodName := ⟨"CapabilityDomainsLaw", "object", "(LCapabilityDomains;I[J)I"⟩
abbrev y_La_set : MethodName := ⟨"CapabilityDomainsLaw", "set", "(LCapabilityDomains;IIII[J)I"⟩
abbrev y_La_link : MethodName := ⟨"CapabilityDomainsLaw", "link", "(LCapabilityDomains;IIII[J)I"⟩
abbrev y_La_hold : MethodName := ⟨"CapabilityDomainsLaw", "hold", "(LCapabilityDomains;IIII[J)I"⟩
abbrev y_La_export : MethodName := ⟨"CapabilityDomainsLaw", "export", "(LCapabilityDomains;IIIII[J)I"⟩
abbrev y_La_narrow : MethodName := ⟨"CapabilityDomainsLaw", "narrow", "(LCapabilityDomains;IIII[J)I"⟩
abbrev y_La_give : MethodName := ⟨"CapabilityDomainsLaw", "give", "(LCapabilityDomains;IIII[J)I"⟩
abbrev y_La_revoke : MethodName := ⟨"CapabilityDomainsLaw", "revoke", "(LCapabilityDomains;II[J)I"⟩
abbrev y_La_read : MethodName := ⟨"CapabilityDomainsLaw", "read", "(LCapabilityDomains;III[J)I"⟩
abbrev y_La_write : MethodName := ⟨"CapabilityDomainsLaw", "write", "(LCapabilityDomains;IIII[J)I"⟩
abbrev y_La_pass : MethodName := ⟨"CapabilityDomainsLaw", "pass", "(LCapabilityDomains;IIII[J)I"⟩
abbrev y_La_take : MethodName := ⟨"CapabilityDomainsLaw", "take", "(LCapabilityDomains;IIII[J)I"⟩
abbrev y_La_free : MethodName := ⟨"CapabilityDomainsLaw", "free", "(LCapabilityDomains;II[J)I"⟩
abbrev y_La_end : MethodName := ⟨"CapabilityDomainsLaw", "end", "(LCapabilityDomains;I[J)I"⟩
abbrev y_La_law : MethodName := ⟨"CapabilityDomainsLaw", "law", "([I)Z"⟩
def cd_gw (c : Cond) : Bool := c.onTables && c.keepsFace
theorem cd_tw {c : Cond} (i : Nat) (h : lw_tbl[i]? = some c) (g : cd_gw c = true) : c ∈ lw_tbl ∧ cd_gw c = true := ⟨List.mem_of_getElem? h, g⟩
theorem in_La : (.initialized "CapabilityDomainsLaw" : Cond) ∈ lw_tbl ∧ cd_gw (.initialized "CapabilityDomainsLaw") = true := cd_tw 30 (by decide +kernel) (by decide +kernel)
theorem in_Cd : (.initialized "CapabilityDomains" : Cond) ∈ lw_tbl ∧ cd_gw (.initialized "CapabilityDomains") = true := cd_tw 31 (by decide +kernel) (by decide +kernel)
theorem in_Re : (.initialized "CapabilityDomains$Reach" : Cond) ∈ lw_tbl ∧ cd_gw (.initialized "CapabilityDomains$Reach") = true := cd_tw 32 (by decide +kernel) (by decide +kernel)
theorem in_Mo : (.initialized "CapabilityDomainsModel" : Cond) ∈ lw_tbl ∧ cd_gw (.initialized "CapabilityDomainsModel") = true := cd_tw 33 (by decide +kernel) (by decide +kernel)
theorem in_Throwable : (.initialized "java/lang/Throwable" : Cond) ∈ lw_tbl ∧ cd_gw (.initialized "java/lang/Throwable") = true := cd_tw 34 (by decide +kernel) (by decide +kernel)
theorem in_Exception : (.initialized "java/lang/Exception" : Cond) ∈ lw_tbl ∧ cd_gw (.initialized "java/lang/Exception") = true := cd_tw 35 (by decide +kernel) (by decide +kernel)
theorem in_RuntimeException : (.initialized "java/lang/RuntimeException" : Cond) ∈ lw_tbl ∧ cd_gw (.initialized "java/lang/RuntimeException") = true := cd_tw 36 (by decide +kernel) (by decide +kernel)
theorem in_IllegalStateException : (.initialized "java/lang/IllegalStateException" : Cond) ∈ lw_tbl ∧ cd_gw (.initialized "java/lang/IllegalStateException") = true := cd_tw 37 (by decide +kernel) (by decide +kernel)
theorem in_Do : (.initialized "CapabilityDomains$Domain" : Cond) ∈ lw_tbl ∧ cd_gw (.initialized "CapabilityDomains$Domain") = true := cd_tw 38 (by decide +kernel) (by decide +kernel)
theorem in_Ob : (.initialized "CapabilityDomains$DomainObject" : Cond) ∈ lw_tbl ∧ cd_gw (.initialized "CapabilityDomains$DomainObject") = true := cd_tw 39 (by decide +kernel) (by decide +kernel)
theorem in_Fi : (.initialized "CapabilityDomains$Field" : Cond) ∈ lw_tbl ∧ cd_gw (.initialized "CapabilityDomains$Field") = true := cd_tw 40 (by decide +kernel) (by decide +kernel)
theorem in_IllegalArgumentException : (.initialized "java/lang/IllegalArgumentException" : Cond) ∈ lw_tbl ∧ cd_gw (.initialized "java/lang/IllegalArgumentException") = true := cd_tw 41 (by decide +kernel) (by decide +kernel)
theorem in_ArithmeticException : (.initialized "java/lang/ArithmeticException" : Cond) ∈ lw_tbl ∧ cd_gw (.initialized "java/lang/ArithmeticException") = true := cd_tw 42 (by decide +kernel) (by decide +kernel)
theorem in_NoSuchElementException : (.initialized "java/util/NoSuchElementException" : Cond) ∈ lw_tbl ∧ cd_gw (.initialized "java/util/NoSuchElementException") = true := cd_tw 43 (by decide +kernel) (by decide +kernel)
theorem in_IndexOutOfBoundsException : (.initialized "java/lang/IndexOutOfBoundsException" : Cond) ∈ lw_tbl ∧ cd_gw (.initialized "java/lang/IndexOutOfBoundsException") = true := cd_tw 44 (by decide +kernel) (by decide +kernel)
theorem in_Ca : (.initialized "CapabilityDomains$Capability" : Cond) ∈ lw_tbl ∧ cd_gw (.initialized "CapabilityDomains$Capability") = true := cd_tw 45 (by decide +kernel) (by decide +kernel)
theorem in_UnsupportedOperationException : (.initialized "java/lang/UnsupportedOperationException" : Cond) ∈ lw_tbl ∧ cd_gw (.initialized "java/lang/UnsupportedOperationException") = true := cd_tw 46 (by decide +kernel) (by decide +kernel)
theorem kl_La_8 : (.classLink "CapabilityDomainsLaw" 8 "CapabilityDomains" : Cond) ∈ lw_tbl ∧ cd_gw (.classLink "CapabilityDomainsLaw" 8 "CapabilityDomains") = true := cd_tw 47 (by decide +kernel) (by decide +kernel)
theorem ia_Cd : (.instantiable "CapabilityDomains" 5 : Cond) ∈ lw_tbl ∧ cd_gw (.instantiable "CapabilityDomains" 5) = true := cd_tw 48 (by decide +kernel) (by decide +kernel)
theorem ml_La_72 : (.methodLink "CapabilityDomainsLaw" 72 ⟨"CapabilityDomains", "<init>", "()V"⟩ : Cond) ∈ lw_tbl ∧ cd_gw (.methodLink "CapabilityDomainsLaw" 72 ⟨"CapabilityDomains", "<init>", "()V"⟩) = true := cd_tw 49 (by decide +kernel) (by decide +kernel)
theorem im_Cd_init : (.instanceMethod ⟨"CapabilityDomains", "<init>", "()V"⟩ : Cond) ∈ lw_tbl ∧ cd_gw (.instanceMethod ⟨"CapabilityDomains", "<init>", "()V"⟩) = true := cd_tw 50 (by decide +kernel) (by decide +kernel)
theorem cw_Cd_init : (.code ⟨"CapabilityDomains", "<init>", "()V"⟩ prog_1_method_1_code 1 none : Cond) ∈ lw_tbl ∧ cd_gw (.code ⟨"CapabilityDomains", "<init>", "()V"⟩ prog_1_method_1_code 1 none) = true := cd_tw 51 (by decide +kernel) (by decide +kernel)
theorem ml_Cd_1 : (.methodLink "CapabilityDomains" 1 ⟨"java/lang/Object", "<init>", "()V"⟩ : Cond) ∈ lw_tbl ∧ cd_gw (.methodLink "CapabilityDomains" 1 ⟨"java/lang/Object", "<init>", "()V"⟩) = true := cd_tw 52 (by decide +kernel) (by decide +kernel)
theorem im_JO_init : (.instanceMethod ⟨"java/lang/Object", "<init>", "()V"⟩ : Cond) ∈ lw_tbl ∧ cd_gw (.instanceMethod ⟨"java/lang/Object", "<init>", "()V"⟩) = true := cd_tw 53 (by decide +kernel) (by decide +kernel)
theorem cw_JO_init : (.code ⟨"java/lang/Object", "<init>", "()V"⟩ object_method_1_code 1 none : Cond) ∈ lw_tbl ∧ cd_gw (.code ⟨"java/lang/Object", "<init>", "()V"⟩ object_method_1_code 1 none) = true := cd_tw 54 (by decide +kernel) (by decide +kernel)
theorem kl_Cd_9 : (.classLink "CapabilityDomains" 9 "CapabilityDomains$Domain" : Cond) ∈ lw_tbl ∧ cd_gw (.classLink "CapabilityDomains" 9 "CapabilityDomains$Domain") = true := cd_tw 55 (by decide +kernel) (by decide +kernel)
theorem kl_Cd_15 : (.classLink "CapabilityDomains" 15 "CapabilityDomains$Capability" : Cond) ∈ lw_tbl ∧ cd_gw (.classLink "CapabilityDomains" 15 "CapabilityDomains$Capability") = true := cd_tw 57 (by decide +kernel) (by decide +kernel)
theorem kl_Cd_21 : (.classLink "CapabilityDomains" 21 "CapabilityDomains$Reach" : Cond) ∈ lw_tbl ∧ cd_gw (.classLink "CapabilityDomains" 21 "CapabilityDomains$Reach") = true := cd_tw 59 (by decide +kernel) (by decide +kernel)
theorem ia_Re : (.instantiable "CapabilityDomains$Reach" 5 : Cond) ∈ lw_tbl ∧ cd_gw (.instantiable "CapabilityDomains$Reach" 5) = true := cd_tw 60 (by decide +kernel) (by decide +kernel)
theorem ml_Cd_23 : (.methodLink "CapabilityDomains" 23 ⟨"CapabilityDomains$Reach", "<init>", "()V"⟩ : Cond) ∈ lw_tbl ∧ cd_gw (.methodLink "CapabilityDomains" 23 ⟨"CapabilityDomains$Reach", "<init>", "()V"⟩) = true := cd_tw 61 (by decide +kernel) (by decide +kernel)
theorem im_Re_init : (.instanceMethod ⟨"CapabilityDomains$Reach", "<init>", "()V"⟩ : Cond) ∈ lw_tbl ∧ cd_gw (.instanceMethod ⟨"CapabilityDomains$Reach", "<init>", "()V"⟩) = true := cd_tw 62 (by decide +kernel) (by decide +kernel)
theorem cw_Re_init : (.code ⟨"CapabilityDomains$Reach", "<init>", "()V"⟩ prog_6_method_1_code 1 none : Cond) ∈ lw_tbl ∧ cd_gw (.code ⟨"CapabilityDomains$Reach", "<init>", "()V"⟩ prog_6_method_1_code 1 none) = true := cd_tw 63 (by decide +kernel) (by decide +kernel)
theorem ml_Re_3 : (.methodLink "CapabilityDomains$Reach" 3 ⟨"java/lang/Object", "<init>", "()V"⟩ : Cond) ∈ lw_tbl ∧ cd_gw (.methodLink "CapabilityDomains$Reach" 3 ⟨"java/lang/Object", "<init>", "()V"⟩) = true := cd_tw 64 (by decide +kernel) (by decide +kernel)
theorem lk_Re_26 : (.fieldLink "CapabilityDomains$Reach" 26 "CapabilityDomains$Reach" "size" "I" : Cond) ∈ lw_tbl ∧ cd_gw (.fieldLink "CapabilityDomains$Reach" 26 "CapabilityDomains$Reach" "size" "I") = true := cd_tw 65 (by decide +kernel) (by decide +kernel)
theorem lk_Cd_175 : (.fieldLink "CapabilityDomains" 175 "CapabilityDomains$Reach" "size" "I" : Cond) ∈ lw_tbl ∧ cd_gw (.fieldLink "CapabilityDomains" 175 "CapabilityDomains$Reach" "size" "I") = true := cd_tw 66 (by decide +kernel) (by decide +kernel)
theorem lk_Re_9 : (.fieldLink "CapabilityDomains$Reach" 9 "CapabilityDomains$Reach" "copyNumber" "[I" : Cond) ∈ lw_tbl ∧ cd_gw (.fieldLink "CapabilityDomains$Reach" 9 "CapabilityDomains$Reach" "copyNumber" "[I") = true := cd_tw 67 (by decide +kernel) (by decide +kernel)
theorem lk_Cd_184 : (.fieldLink "CapabilityDomains" 184 "CapabilityDomains$Reach" "copyNumber" "[I" : Cond) ∈ lw_tbl ∧ cd_gw (.fieldLink "CapabilityDomains" 184 "CapabilityDomains$Reach" "copyNumber" "[I") = true := cd_tw 68 (by decide +kernel) (by decide +kernel)
theorem lk_Re_15 : (.fieldLink "CapabilityDomains$Reach" 15 "CapabilityDomains$Reach" "order" "[I" : Cond) ∈ lw_tbl ∧ cd_gw (.fieldLink "CapabilityDomains$Reach" 15 "CapabilityDomains$Reach" "order" "[I") = true := cd_tw 69 (by decide +kernel) (by decide +kernel)
theorem lk_Re_18 : (.fieldLink "CapabilityDomains$Reach" 18 "CapabilityDomains$Reach" "seen" "[Z" : Cond) ∈ lw_tbl ∧ cd_gw (.fieldLink "CapabilityDomains$Reach" 18 "CapabilityDomains$Reach" "seen" "[Z") = true := cd_tw 70 (by decide +kernel) (by decide +kernel)
theorem lk_Re_22 : (.fieldLink "CapabilityDomains$Reach" 22 "CapabilityDomains$Reach" "from" "LCapabilityDomains$Domain;" : Cond) ∈ lw_tbl ∧ cd_gw (.fieldLink "CapabilityDomains$Reach" 22 "CapabilityDomains$Reach" "from" "LCapabilityDomains$Domain;") = true := cd_tw 71 (by decide +kernel) (by decide +kernel)
theorem lk_Cd_11 : (.fieldLink "CapabilityDomains" 11 "CapabilityDomains" "domains" "[LCapabilityDomains$Domain;" : Cond) ∈ lw_tbl ∧ cd_gw (.fieldLink "CapabilityDomains" 11 "CapabilityDomains" "domains" "[LCapabilityDomains$Domain;") = true := cd_tw 85 (by decide +kernel) (by decide +kernel)
theorem lk_Cd_28 : (.fieldLink "CapabilityDomains" 28 "CapabilityDomains" "domainsMade" "I" : Cond) ∈ lw_tbl ∧ cd_gw (.fieldLink "CapabilityDomains" 28 "CapabilityDomains" "domainsMade" "I") = true := cd_tw 86 (by decide +kernel) (by decide +kernel)
theorem lk_Cd_17 : (.fieldLink "CapabilityDomains" 17 "CapabilityDomains" "capabilities" "[LCapabilityDomains$Capability;" : Cond) ∈ lw_tbl ∧ cd_gw (.fieldLink "CapabilityDomains" 17 "CapabilityDomains" "capabilities" "[LCapabilityDomains$Capability;") = true := cd_tw 87 (by decide +kernel) (by decide +kernel)
theorem lk_Cd_233 : (.fieldLink "CapabilityDomains" 233 "CapabilityDomains" "capabilitiesMade" "I" : Cond) ∈ lw_tbl ∧ cd_gw (.fieldLink "CapabilityDomains" 233 "CapabilityDomains" "capabilitiesMade" "I") = true := cd_tw 88 (by decide +kernel) (by decide +kernel)
theorem lk_Cd_24 : (.fieldLink "CapabilityDomains" 24 "CapabilityDomains" "reach" "LCapabilityDomains$Reach;" : Cond) ∈ lw_tbl ∧ cd_gw (.fieldLink "CapabilityDomains" 24 "CapabilityDomains" "reach" "LCapabilityDomains$Reach;") = true := cd_tw 89 (by decide +kernel) (by decide +kernel)
theorem ml_La_132 : (.methodLink "CapabilityDomainsLaw" 132 ⟨"CapabilityDomains", "holds", "(III)I"⟩ : Cond) ∈ lw_tbl ∧ cd_gw (.methodLink "CapabilityDomainsLaw" 132 ⟨"CapabilityDomains", "holds", "(III)I"⟩) = true := cd_tw 101 (by decide +kernel) (by decide +kernel)
theorem im_Cd_holds : (.instanceMethod ⟨"CapabilityDomains", "holds", "(III)I"⟩ : Cond) ∈ lw_tbl ∧ cd_gw (.instanceMethod ⟨"CapabilityDomains", "holds", "(III)I"⟩) = true := cd_tw 102 (by decide +kernel) (by decide +kernel)
theorem se_Cd_holds : (.selects "CapabilityDomains" ⟨"CapabilityDomains", "holds", "(III)I"⟩ ⟨"CapabilityDomains", "holds", "(III)I"⟩ : Cond) ∈ lw_tbl ∧ cd_gw (.selects "CapabilityDomains" ⟨"CapabilityDomains", "holds", "(III)I"⟩ ⟨"CapabilityDomains", "holds", "(III)I"⟩) = true := cd_tw 103 (by decide +kernel) (by decide +kernel)
theorem cw_Cd_holds : (.code ⟨"CapabilityDomains", "holds", "(III)I"⟩ prog_1_method_17_code 5 (some .int) : Cond) ∈ lw_tbl ∧ cd_gw (.code ⟨"CapabilityDomains", "holds", "(III)I"⟩ prog_1_method_17_code 5 (some .int)) = true := cd_tw 104 (by decide +kernel) (by decide +kernel)
theorem ml_Cd_201 : (.methodLink "CapabilityDomains" 201 ⟨"CapabilityDomains", "isField", "(III)Z"⟩ : Cond) ∈ lw_tbl ∧ cd_gw (.methodLink "CapabilityDomains" 201 ⟨"CapabilityDomains", "isField", "(III)Z"⟩) = true := cd_tw 105 (by decide +kernel) (by decide +kernel)
theorem im_Cd_isField : (.instanceMethod ⟨"CapabilityDomains", "isField", "(III)Z"⟩ : Cond) ∈ lw_tbl ∧ cd_gw (.instanceMethod ⟨"CapabilityDomains", "isField", "(III)Z"⟩) = true := cd_tw 107 (by decide +kernel) (by decide +kernel)
theorem cw_Cd_isField : (.code ⟨"CapabilityDomains", "isField", "(III)Z"⟩ prog_1_method_26_code 4 (some .boolean) : Cond) ∈ lw_tbl ∧ cd_gw (.code ⟨"CapabilityDomains", "isField", "(III)Z"⟩ prog_1_method_26_code 4 (some .boolean)) = true := cd_tw 108 (by decide +kernel) (by decide +kernel)
theorem ml_Cd_221 : (.methodLink "CapabilityDomains" 221 ⟨"CapabilityDomains", "isDomain", "(I)Z"⟩ : Cond) ∈ lw_tbl ∧ cd_gw (.methodLink "CapabilityDomains" 221 ⟨"CapabilityDomains", "isDomain", "(I)Z"⟩) = true := cd_tw 109 (by decide +kernel) (by decide +kernel)
theorem im_Cd_isDomain : (.instanceMethod ⟨"CapabilityDomains", "isDomain", "(I)Z"⟩ : Cond) ∈ lw_tbl ∧ cd_gw (.instanceMethod ⟨"CapabilityDomains", "isDomain", "(I)Z"⟩) = true := cd_tw 111 (by decide +kernel) (by decide +kernel)
theorem cw_Cd_isDomain : (.code ⟨"CapabilityDomains", "isDomain", "(I)Z"⟩ prog_1_method_24_code 2 (some .boolean) : Cond) ∈ lw_tbl ∧ cd_gw (.code ⟨"CapabilityDomains", "isDomain", "(I)Z"⟩ prog_1_method_24_code 2 (some .boolean)) = true := cd_tw 112 (by decide +kernel) (by decide +kernel)
theorem ml_Cd_69 : (.methodLink "CapabilityDomains" 69 ⟨"CapabilityDomains$Domain", "hasObject", "(I)Z"⟩ : Cond) ∈ lw_tbl ∧ cd_gw (.methodLink "CapabilityDomains" 69 ⟨"CapabilityDomains$Domain", "hasObject", "(I)Z"⟩) = true := cd_tw 113 (by decide +kernel) (by decide +kernel)
theorem im_Do_hasObject : (.instanceMethod ⟨"CapabilityDomains$Domain", "hasObject", "(I)Z"⟩ : Cond) ∈ lw_tbl ∧ cd_gw (.instanceMethod ⟨"CapabilityDomains$Domain", "hasObject", "(I)Z"⟩) = true := cd_tw 114 (by decide +kernel) (by decide +kernel)
theorem se_Do_hasObject : (.selects "CapabilityDomains$Domain" ⟨"CapabilityDomains$Domain", "hasObject", "(I)Z"⟩ ⟨"CapabilityDomains$Domain", "hasObject", "(I)Z"⟩ : Cond) ∈ lw_tbl ∧ cd_gw (.selects "CapabilityDomains$Domain" ⟨"CapabilityDomains$Domain", "hasObject", "(I)Z"⟩ ⟨"CapabilityDomains$Domain", "hasObject", "(I)Z"⟩) = true := cd_tw 115 (by decide +kernel) (by decide +kernel)
theorem cw_Do_hasObject : (.code ⟨"CapabilityDomains$Domain", "hasObject", "(I)Z"⟩ prog_3_method_2_code 2 (some .boolean) : Cond) ∈ lw_tbl ∧ cd_gw (.code ⟨"CapabilityDomains$Domain", "hasObject", "(I)Z"⟩ prog_3_method_2_code 2 (some .boolean)) = true := cd_tw 116 (by decide +kernel) (by decide +kernel)
theorem ml_Cd_215 : (.methodLink "CapabilityDomains" 215 ⟨"CapabilityDomains$Field", "isLink", "()Z"⟩ : Cond) ∈ lw_tbl ∧ cd_gw (.methodLink "CapabilityDomains" 215 ⟨"CapabilityDomains$Field", "isLink", "()Z"⟩) = true := cd_tw 117 (by decide +kernel) (by decide +kernel)
theorem im_Fi_isLink : (.instanceMethod ⟨"CapabilityDomains$Field", "isLink", "()Z"⟩ : Cond) ∈ lw_tbl ∧ cd_gw (.instanceMethod ⟨"CapabilityDomains$Field", "isLink", "()Z"⟩) = true := cd_tw 118 (by decide +kernel) (by decide +kernel)
theorem se_Fi_isLink : (.selects "CapabilityDomains$Field" ⟨"CapabilityDomains$Field", "isLink", "()Z"⟩ ⟨"CapabilityDomains$Field", "isLink", "()Z"⟩ : Cond) ∈ lw_tbl ∧ cd_gw (.selects "CapabilityDomains$Field" ⟨"CapabilityDomains$Field", "isLink", "()Z"⟩ ⟨"CapabilityDomains$Field", "isLink", "()Z"⟩) = true := cd_tw 119 (by decide +kernel) (by decide +kernel)
theorem cw_Fi_isLink : (.code ⟨"CapabilityDomains$Field", "isLink", "()Z"⟩ prog_5_method_2_code 1 (some .boolean) : Cond) ∈ lw_tbl ∧ cd_gw (.code ⟨"CapabilityDomains$Field", "isLink", "()Z"⟩ prog_5_method_2_code 1 (some .boolean)) = true := cd_tw 120 (by decide +kernel) (by decide +kernel)
theorem ml_La_136 : (.methodLink "CapabilityDomainsLaw" 136 ⟨"CapabilityDomains", "linked", "(III)I"⟩ : Cond) ∈ lw_tbl ∧ cd_gw (.methodLink "CapabilityDomainsLaw" 136 ⟨"CapabilityDomains", "linked", "(III)I"⟩) = true := cd_tw 121 (by decide +kernel) (by decide +kernel)
theorem im_Cd_linked : (.instanceMethod ⟨"CapabilityDomains", "linked", "(III)I"⟩ : Cond) ∈ lw_tbl ∧ cd_gw (.instanceMethod ⟨"CapabilityDomains", "linked", "(III)I"⟩) = true := cd_tw 122 (by decide +kernel) (by decide +kernel)
theorem se_Cd_linked : (.selects "CapabilityDomains" ⟨"CapabilityDomains", "linked", "(III)I"⟩ ⟨"CapabilityDomains", "linked", "(III)I"⟩ : Cond) ∈ lw_tbl ∧ cd_gw (.selects "CapabilityDomains" ⟨"CapabilityDomains", "linked", "(III)I"⟩ ⟨"CapabilityDomains", "linked", "(III)I"⟩) = true := cd_tw 123 (by decide +kernel) (by decide +kernel)
theorem cw_Cd_linked : (.code ⟨"CapabilityDomains", "linked", "(III)I"⟩ prog_1_method_18_code 4 (some .int) : Cond) ∈ lw_tbl ∧ cd_gw (.code ⟨"CapabilityDomains", "linked", "(III)I"⟩ prog_1_method_18_code 4 (some .int)) = true := cd_tw 124 (by decide +kernel) (by decide +kernel)
theorem ml_La_140 : (.methodLink "CapabilityDomainsLaw" 140 ⟨"CapabilityDomains", "slot", "(II)I"⟩ : Cond) ∈ lw_tbl ∧ cd_gw (.methodLink "CapabilityDomainsLaw" 140 ⟨"CapabilityDomains", "slot", "(II)I"⟩) = true := cd_tw 125 (by decide +kernel) (by decide +kernel)
theorem im_Cd_slot : (.instanceMethod ⟨"CapabilityDomains", "slot", "(II)I"⟩ : Cond) ∈ lw_tbl ∧ cd_gw (.instanceMethod ⟨"CapabilityDomains", "slot", "(II)I"⟩) = true := cd_tw 126 (by decide +kernel) (by decide +kernel)
theorem se_Cd_slot : (.selects "CapabilityDomains" ⟨"CapabilityDomains", "slot", "(II)I"⟩ ⟨"CapabilityDomains", "slot", "(II)I"⟩ : Cond) ∈ lw_tbl ∧ cd_gw (.selects "CapabilityDomains" ⟨"CapabilityDomains", "slot", "(II)I"⟩ ⟨"CapabilityDomains", "slot", "(II)I"⟩) = true := cd_tw 127 (by decide +kernel) (by decide +kernel)
theorem cw_Cd_slot : (.code ⟨"CapabilityDomains", "slot", "(II)I"⟩ prog_1_method_19_code 4 (some .int) : Cond) ∈ lw_tbl ∧ cd_gw (.code ⟨"CapabilityDomains", "slot", "(II)I"⟩ prog_1_method_19_code 4 (some .int)) = true := cd_tw 128 (by decide +kernel) (by decide +kernel)
theorem ml_Cd_81 : (.methodLink "CapabilityDomains" 81 ⟨"CapabilityDomains", "isSlot", "(I)Z"⟩ : Cond) ∈ lw_tbl ∧ cd_gw (.methodLink "CapabilityDomains" 81 ⟨"CapabilityDomains", "isSlot", "(I)Z"⟩) = true := cd_tw 129 (by decide +kernel) (by decide +kernel)
theorem st_Cd_isSlot : (.static ⟨"CapabilityDomains", "isSlot", "(I)Z"⟩ : Cond) ∈ lw_tbl ∧ cd_gw (.static ⟨"CapabilityDomains", "isSlot", "(I)Z"⟩) = true := cd_tw 130 (by decide +kernel) (by decide +kernel)
theorem cw_Cd_isSlot : (.code ⟨"CapabilityDomains", "isSlot", "(I)Z"⟩ prog_1_method_25_code 1 (some .boolean) : Cond) ∈ lw_tbl ∧ cd_gw (.code ⟨"CapabilityDomains", "isSlot", "(I)Z"⟩ prog_1_method_25_code 1 (some .boolean)) = true := cd_tw 131 (by decide +kernel) (by decide +kernel)
theorem ml_La_144 : (.methodLink "CapabilityDomainsLaw" 144 ⟨"CapabilityDomains", "count", "(I)I"⟩ : Cond) ∈ lw_tbl ∧ cd_gw (.methodLink "CapabilityDomainsLaw" 144 ⟨"CapabilityDomains", "count", "(I)I"⟩) = true := cd_tw 132 (by decide +kernel) (by decide +kernel)
theorem im_Cd_count : (.instanceMethod ⟨"CapabilityDomains", "count", "(I)I"⟩ : Cond) ∈ lw_tbl ∧ cd_gw (.instanceMethod ⟨"CapabilityDomains", "count", "(I)I"⟩) = true := cd_tw 133 (by decide +kernel) (by decide +kernel)
theorem se_Cd_count : (.selects "CapabilityDomains" ⟨"CapabilityDomains", "count", "(I)I"⟩ ⟨"CapabilityDomains", "count", "(I)I"⟩ : Cond) ∈ lw_tbl ∧ cd_gw (.selects "CapabilityDomains" ⟨"CapabilityDomains", "count", "(I)I"⟩ ⟨"CapabilityDomains", "count", "(I)I"⟩) = true := cd_tw 134 (by decide +kernel) (by decide +kernel)
theorem cw_Cd_count : (.code ⟨"CapabilityDomains", "count", "(I)I"⟩ prog_1_method_20_code 2 (some .int) : Cond) ∈ lw_tbl ∧ cd_gw (.code ⟨"CapabilityDomains", "count", "(I)I"⟩ prog_1_method_20_code 2 (some .int)) = true := cd_tw 135 (by decide +kernel) (by decide +kernel)
theorem ml_Cd_230 : (.methodLink "CapabilityDomains" 230 ⟨"CapabilityDomains", "livingDomains", "()I"⟩ : Cond) ∈ lw_tbl ∧ cd_gw (.methodLink "CapabilityDomains" 230 ⟨"CapabilityDomains", "livingDomains", "()I"⟩) = true := cd_tw 136 (by decide +kernel) (by decide +kernel)
theorem im_Cd_livingDomains : (.instanceMethod ⟨"CapabilityDomains", "livingDomains", "()I"⟩ : Cond) ∈ lw_tbl ∧ cd_gw (.instanceMethod ⟨"CapabilityDomains", "livingDomains", "()I"⟩) = true := cd_tw 138 (by decide +kernel) (by decide +kernel)
theorem cw_Cd_livingDomains : (.code ⟨"CapabilityDomains", "livingDomains", "()I"⟩ prog_1_method_21_code 3 (some .int) : Cond) ∈ lw_tbl ∧ cd_gw (.code ⟨"CapabilityDomains", "livingDomains", "()I"⟩ prog_1_method_21_code 3 (some .int)) = true := cd_tw 139 (by decide +kernel) (by decide +kernel)
theorem ml_Cd_236 : (.methodLink "CapabilityDomains" 236 ⟨"CapabilityDomains", "livingCapabilities", "()I"⟩ : Cond) ∈ lw_tbl ∧ cd_gw (.methodLink "CapabilityDomains" 236 ⟨"CapabilityDomains", "livingCapabilities", "()I"⟩) = true := cd_tw 140 (by decide +kernel) (by decide +kernel)
theorem im_Cd_livingCapabilities : (.instanceMethod ⟨"CapabilityDomains", "livingCapabilities", "()I"⟩ : Cond) ∈ lw_tbl ∧ cd_gw (.instanceMethod ⟨"CapabilityDomains", "livingCapabilities", "()I"⟩) = true := cd_tw 142 (by decide +kernel) (by decide +kernel)
theorem cw_Cd_livingCapabilities : (.code ⟨"CapabilityDomains", "livingCapabilities", "()I"⟩ prog_1_method_22_code 3 (some .int) : Cond) ∈ lw_tbl ∧ cd_gw (.code ⟨"CapabilityDomains", "livingCapabilities", "()I"⟩ prog_1_method_22_code 3 (some .int)) = true := cd_tw 143 (by decide +kernel) (by decide +kernel)
theorem ml_Cd_239 : (.methodLink "CapabilityDomains" 239 ⟨"CapabilityDomains", "objectsOf", "(I)I"⟩ : Cond) ∈ lw_tbl ∧ cd_gw (.methodLink "CapabilityDomains" 239 ⟨"CapabilityDomains", "objectsOf", "(I)I"⟩) = true := cd_tw 144 (by decide +kernel) (by decide +kernel)
theorem im_Cd_objectsOf : (.instanceMethod ⟨"CapabilityDomains", "objectsOf", "(I)I"⟩ : Cond) ∈ lw_tbl ∧ cd_gw (.instanceMethod ⟨"CapabilityDomains", "objectsOf", "(I)I"⟩) = true := cd_tw 146 (by decide +kernel) (by decide +kernel)
theorem cw_Cd_objectsOf : (.code ⟨"CapabilityDomains", "objectsOf", "(I)I"⟩ prog_1_method_23_code 2 (some .int) : Cond) ∈ lw_tbl ∧ cd_gw (.code ⟨"CapabilityDomains", "objectsOf", "(I)I"⟩ prog_1_method_23_code 2 (some .int)) = true := cd_tw 147 (by decide +kernel) (by decide +kernel)
theorem ml_Cd_44 : (.methodLink "CapabilityDomains" 44 ⟨"CapabilityDomains$Domain", "objectCount", "()I"⟩ : Cond) ∈ lw_tbl ∧ cd_gw (.methodLink "CapabilityDomains" 44 ⟨"CapabilityDomains$Domain", "objectCount", "()I"⟩) = true := cd_tw 148 (by decide +kernel) (by decide +kernel)
theorem im_Do_objectCount : (.instanceMethod ⟨"CapabilityDomains$Domain", "objectCount", "()I"⟩ : Cond) ∈ lw_tbl ∧ cd_gw (.instanceMethod ⟨"CapabilityDomains$Domain", "objectCount", "()I"⟩) = true := cd_tw 149 (by decide +kernel) (by decide +kernel)
theorem se_Do_objectCount : (.selects "CapabilityDomains$Domain" ⟨"CapabilityDomains$Domain", "objectCount", "()I"⟩ ⟨"CapabilityDomains$Domain", "objectCount", "()I"⟩ : Cond) ∈ lw_tbl ∧ cd_gw (.selects "CapabilityDomains$Domain" ⟨"CapabilityDomains$Domain", "objectCount", "()I"⟩ ⟨"CapabilityDomains$Domain", "objectCount", "()I"⟩) = true := cd_tw 150 (by decide +kernel) (by decide +kernel)
theorem cw_Do_objectCount : (.code ⟨"CapabilityDomains$Domain", "objectCount", "()I"⟩ prog_3_method_3_code 3 (some .int) : Cond) ∈ lw_tbl ∧ cd_gw (.code ⟨"CapabilityDomains$Domain", "objectCount", "()I"⟩ prog_3_method_3_code 3 (some .int)) = true := cd_tw 151 (by decide +kernel) (by decide +kernel)
theorem ml_La_76 : (.methodLink "CapabilityDomainsLaw" 76 ⟨"CapabilityDomainsLaw", "domain", "(LCapabilityDomains;[J)I"⟩ : Cond) ∈ lw_tbl ∧ cd_gw (.methodLink "CapabilityDomainsLaw" 76 ⟨"CapabilityDomainsLaw", "domain", "(LCapabilityDomains;[J)I"⟩) = true := cd_tw 152 (by decide +kernel) (by decide +kernel)
theorem st_La_domain : (.static ⟨"CapabilityDomainsLaw", "domain", "(LCapabilityDomains;[J)I"⟩ : Cond) ∈ lw_tbl ∧ cd_gw (.static ⟨"CapabilityDomainsLaw", "domain", "(LCapabilityDomains;[J)I"⟩) = true := cd_tw 153 (by decide +kernel) (by decide +kernel)
theorem cw_La_domain : (.codeWith ⟨"CapabilityDomainsLaw", "domain", "(LCapabilityDomains;[J)I"⟩ method_3_code 3 (some .int) [(0, 8, 11, 13)] : Cond) ∈ lw_tbl ∧ cd_gw (.codeWith ⟨"CapabilityDomainsLaw", "domain", "(LCapabilityDomains;[J)I"⟩ method_3_code 3 (some .int) [(0, 8, 11, 13)]) = true := cd_tw 154 (by decide +kernel) (by decide +kernel)
theorem kl_La_13 : (.classLink "CapabilityDomainsLaw" 13 "java/lang/IllegalStateException" : Cond) ∈ lw_tbl ∧ cd_gw (.classLink "CapabilityDomainsLaw" 13 "java/lang/IllegalStateException") = true := cd_tw 155 (by decide +kernel) (by decide +kernel)
theorem ml_La_7 : (.methodLink "CapabilityDomainsLaw" 7 ⟨"CapabilityDomains", "domain", "()I"⟩ : Cond) ∈ lw_tbl ∧ cd_gw (.methodLink "CapabilityDomainsLaw" 7 ⟨"CapabilityDomains", "domain", "()I"⟩) = true := cd_tw 156 (by decide +kernel) (by decide +kernel)
theorem im_Cd_domain : (.instanceMethod ⟨"CapabilityDomains", "domain", "()I"⟩ : Cond) ∈ lw_tbl ∧ cd_gw (.instanceMethod ⟨"CapabilityDomains", "domain", "()I"⟩) = true := cd_tw 157 (by decide +kernel) (by decide +kernel)
theorem se_Cd_domain : (.selects "CapabilityDomains" ⟨"CapabilityDomains", "domain", "()I"⟩ ⟨"CapabilityDomains", "domain", "()I"⟩ : Cond) ∈ lw_tbl ∧ cd_gw (.selects "CapabilityDomains" ⟨"CapabilityDomains", "domain", "()I"⟩ ⟨"CapabilityDomains", "domain", "()I"⟩) = true := cd_tw 158 (by decide +kernel) (by decide +kernel)
theorem cw_Cd_domain : (.code ⟨"CapabilityDomains", "domain", "()I"⟩ prog_1_method_2_code 1 (some .int) : Cond) ∈ lw_tbl ∧ cd_gw (.code ⟨"CapabilityDomains", "domain", "()I"⟩ prog_1_method_2_code 1 (some .int)) = true := cd_tw 159 (by decide +kernel) (by decide +kernel)
theorem kl_Cd_32 : (.classLink "CapabilityDomains" 32 "java/lang/IllegalStateException" : Cond) ∈ lw_tbl ∧ cd_gw (.classLink "CapabilityDomains" 32 "java/lang/IllegalStateException") = true := cd_tw 160 (by decide +kernel) (by decide +kernel)
theorem ia_IllegalStateException : (.instantiable "java/lang/IllegalStateException" 6 : Cond) ∈ lw_tbl ∧ cd_gw (.instantiable "java/lang/IllegalStateException" 6) = true := cd_tw 161 (by decide +kernel) (by decide +kernel)
theorem ca_IllegalStateException : (.castable "java/lang/IllegalStateException" "java/lang/IllegalStateException" : Cond) ∈ lw_tbl ∧ cd_gw (.castable "java/lang/IllegalStateException" "java/lang/IllegalStateException") = true := cd_tw 162 (by decide +kernel) (by decide +kernel)
theorem lk_Throwable_198 : (.fieldLink "java/lang/Throwable" 198 "java/lang/Throwable" "backtrace" "Ljava/lang/Object;" : Cond) ∈ lw_tbl ∧ cd_gw (.fieldLink "java/lang/Throwable" 198 "java/lang/Throwable" "backtrace" "Ljava/lang/Object;") = true := cd_tw 181 (by decide +kernel) (by decide +kernel)
theorem ml_Throwable_1 : (.methodLink "java/lang/Throwable" 1 ⟨"java/lang/Object", "<init>", "()V"⟩ : Cond) ∈ lw_tbl ∧ cd_gw (.methodLink "java/lang/Throwable" 1 ⟨"java/lang/Object", "<init>", "()V"⟩) = true := cd_tw 185 (by decide +kernel) (by decide +kernel)
theorem lk_Throwable_13 : (.fieldLink "java/lang/Throwable" 13 "java/lang/Throwable" "UNASSIGNED_STACK" "[Ljava/lang/StackTraceElement;" : Cond) ∈ lw_tbl ∧ cd_gw (.fieldLink "java/lang/Throwable" 13 "java/lang/Throwable" "UNASSIGNED_STACK" "[Ljava/lang/StackTraceElement;") = true := cd_tw 186 (by decide +kernel) (by decide +kernel)
theorem lk_Throwable_20 : (.fieldLink "java/lang/Throwable" 20 "java/lang/Throwable" "SUPPRESSED_SENTINEL" "Ljava/util/List;" : Cond) ∈ lw_tbl ∧ cd_gw (.fieldLink "java/lang/Throwable" 20 "java/lang/Throwable" "SUPPRESSED_SENTINEL" "Ljava/util/List;") = true := cd_tw 188 (by decide +kernel) (by decide +kernel)
theorem ml_Throwable_27 : (.methodLink "java/lang/Throwable" 27 ⟨"java/lang/Throwable", "fillInStackTrace", "()Ljava/lang/Throwable;"⟩ : Cond) ∈ lw_tbl ∧ cd_gw (.methodLink "java/lang/Throwable" 27 ⟨"java/lang/Throwable", "fillInStackTrace", "()Ljava/lang/Throwable;"⟩) = true := cd_tw 190 (by decide +kernel) (by decide +kernel)
theorem ml_Throwable_202 : (.methodLink "java/lang/Throwable" 202 ⟨"java/lang/Throwable", "fillInStackTrace", "(I)Ljava/lang/Throwable;"⟩ : Cond) ∈ lw_tbl ∧ cd_gw (.methodLink "java/lang/Throwable" 202 ⟨"java/lang/Throwable", "fillInStackTrace", "(I)Ljava/lang/Throwable;"⟩) = true := cd_tw 199 (by decide +kernel) (by decide +kernel)
theorem ia_Throwable : (.instantiable "java/lang/Throwable" 6 : Cond) ∈ lw_tbl ∧ cd_gw (.instantiable "java/lang/Throwable" 6) = true := cd_tw 202 (by decide +kernel) (by decide +kernel)
theorem ml_Cd_36 : (.methodLink "CapabilityDomains" 36 ⟨"java/lang/IllegalStateException", "<init>", "(Ljava/lang/String;)V"⟩ : Cond) ∈ lw_tbl ∧ cd_gw (.methodLink "CapabilityDomains" 36 ⟨"java/lang/IllegalStateException", "<init>", "(Ljava/lang/String;)V"⟩) = true := cd_tw 205 (by decide +kernel) (by decide +kernel)
theorem ml_IllegalStateException_7 : (.methodLink "java/lang/IllegalStateException" 7 ⟨"java/lang/RuntimeException", "<init>", "(Ljava/lang/String;)V"⟩ : Cond) ∈ lw_tbl ∧ cd_gw (.methodLink "java/lang/IllegalStateException" 7 ⟨"java/lang/RuntimeException", "<init>", "(Ljava/lang/String;)V"⟩) = true := cd_tw 208 (by decide +kernel) (by decide +kernel)
theorem ml_RuntimeException_7 : (.methodLink "java/lang/RuntimeException" 7 ⟨"java/lang/Exception", "<init>", "(Ljava/lang/String;)V"⟩ : Cond) ∈ lw_tbl ∧ cd_gw (.methodLink "java/lang/RuntimeException" 7 ⟨"java/lang/Exception", "<init>", "(Ljava/lang/String;)V"⟩) = true := cd_tw 211 (by decide +kernel) (by decide +kernel)
theorem ml_Exception_7 : (.methodLink "java/lang/Exception" 7 ⟨"java/lang/Throwable", "<init>", "(Ljava/lang/String;)V"⟩ : Cond) ∈ lw_tbl ∧ cd_gw (.methodLink "java/lang/Exception" 7 ⟨"java/lang/Throwable", "<init>", "(Ljava/lang/String;)V"⟩) = true := cd_tw 214 (by decide +kernel) (by decide +kernel)
theorem lk_Throwable_31 : (.fieldLink "java/lang/Throwable" 31 "java/lang/Throwable" "detailMessage" "Ljava/lang/String;" : Cond) ∈ lw_tbl ∧ cd_gw (.fieldLink "java/lang/Throwable" 31 "java/lang/Throwable" "detailMessage" "Ljava/lang/String;") = true := cd_tw 218 (by decide +kernel) (by decide +kernel)
theorem lk_Throwable_7 : (.fieldLink "java/lang/Throwable" 7 "java/lang/Throwable" "cause" "Ljava/lang/Throwable;" : Cond) ∈ lw_tbl ∧ cd_gw (.fieldLink "java/lang/Throwable" 7 "java/lang/Throwable" "cause" "Ljava/lang/Throwable;") = true := cd_tw 219 (by decide +kernel) (by decide +kernel)
theorem lk_Throwable_17 : (.fieldLink "java/lang/Throwable" 17 "java/lang/Throwable" "stackTrace" "[Ljava/lang/StackTraceElement;" : Cond) ∈ lw_tbl ∧ cd_gw (.fieldLink "java/lang/Throwable" 17 "java/lang/Throwable" "stackTrace" "[Ljava/lang/StackTraceElement;") = true := cd_tw 220 (by decide +kernel) (by decide +kernel)
theorem lk_Throwable_24 : (.fieldLink "java/lang/Throwable" 24 "java/lang/Throwable" "suppressedExceptions" "Ljava/util/List;" : Cond) ∈ lw_tbl ∧ cd_gw (.fieldLink "java/lang/Throwable" 24 "java/lang/Throwable" "suppressedExceptions" "Ljava/util/List;") = true := cd_tw 221 (by decide +kernel) (by decide +kernel)
theorem ia_Do : (.instantiable "CapabilityDomains$Domain" 3 : Cond) ∈ lw_tbl ∧ cd_gw (.instantiable "CapabilityDomains$Domain" 3) = true := cd_tw 231 (by decide +kernel) (by decide +kernel)
theorem ml_Cd_39 : (.methodLink "CapabilityDomains" 39 ⟨"CapabilityDomains$Domain", "<init>", "()V"⟩ : Cond) ∈ lw_tbl ∧ cd_gw (.methodLink "CapabilityDomains" 39 ⟨"CapabilityDomains$Domain", "<init>", "()V"⟩) = true := cd_tw 232 (by decide +kernel) (by decide +kernel)
theorem im_Do_init : (.instanceMethod ⟨"CapabilityDomains$Domain", "<init>", "()V"⟩ : Cond) ∈ lw_tbl ∧ cd_gw (.instanceMethod ⟨"CapabilityDomains$Domain", "<init>", "()V"⟩) = true := cd_tw 233 (by decide +kernel) (by decide +kernel)
theorem cw_Do_init : (.code ⟨"CapabilityDomains$Domain", "<init>", "()V"⟩ prog_3_method_1_code 2 none : Cond) ∈ lw_tbl ∧ cd_gw (.code ⟨"CapabilityDomains$Domain", "<init>", "()V"⟩ prog_3_method_1_code 2 none) = true := cd_tw 234 (by decide +kernel) (by decide +kernel)
theorem ml_Do_3 : (.methodLink "CapabilityDomains$Domain" 3 ⟨"java/lang/Object", "<init>", "()V"⟩ : Cond) ∈ lw_tbl ∧ cd_gw (.methodLink "CapabilityDomains$Domain" 3 ⟨"java/lang/Object", "<init>", "()V"⟩) = true := cd_tw 235 (by decide +kernel) (by decide +kernel)
theorem kl_Do_9 : (.classLink "CapabilityDomains$Domain" 9 "CapabilityDomains$DomainObject" : Cond) ∈ lw_tbl ∧ cd_gw (.classLink "CapabilityDomains$Domain" 9 "CapabilityDomains$DomainObject") = true := cd_tw 236 (by decide +kernel) (by decide +kernel)
theorem ia_Ob : (.instantiable "CapabilityDomains$DomainObject" 2 : Cond) ∈ lw_tbl ∧ cd_gw (.instantiable "CapabilityDomains$DomainObject" 2) = true := cd_tw 238 (by decide +kernel) (by decide +kernel)
theorem ml_Do_17 : (.methodLink "CapabilityDomains$Domain" 17 ⟨"CapabilityDomains$DomainObject", "<init>", "()V"⟩ : Cond) ∈ lw_tbl ∧ cd_gw (.methodLink "CapabilityDomains$Domain" 17 ⟨"CapabilityDomains$DomainObject", "<init>", "()V"⟩) = true := cd_tw 239 (by decide +kernel) (by decide +kernel)
theorem im_Ob_init : (.instanceMethod ⟨"CapabilityDomains$DomainObject", "<init>", "()V"⟩ : Cond) ∈ lw_tbl ∧ cd_gw (.instanceMethod ⟨"CapabilityDomains$DomainObject", "<init>", "()V"⟩) = true := cd_tw 240 (by decide +kernel) (by decide +kernel)
theorem cw_Ob_init : (.code ⟨"CapabilityDomains$DomainObject", "<init>", "()V"⟩ prog_4_method_1_code 2 none : Cond) ∈ lw_tbl ∧ cd_gw (.code ⟨"CapabilityDomains$DomainObject", "<init>", "()V"⟩ prog_4_method_1_code 2 none) = true := cd_tw 241 (by decide +kernel) (by decide +kernel)
theorem ml_Ob_3 : (.methodLink "CapabilityDomains$DomainObject" 3 ⟨"java/lang/Object", "<init>", "()V"⟩ : Cond) ∈ lw_tbl ∧ cd_gw (.methodLink "CapabilityDomains$DomainObject" 3 ⟨"java/lang/Object", "<init>", "()V"⟩) = true := cd_tw 242 (by decide +kernel) (by decide +kernel)
theorem kl_Ob_9 : (.classLink "CapabilityDomains$DomainObject" 9 "CapabilityDomains$Field" : Cond) ∈ lw_tbl ∧ cd_gw (.classLink "CapabilityDomains$DomainObject" 9 "CapabilityDomains$Field") = true := cd_tw 243 (by decide +kernel) (by decide +kernel)
theorem ia_Fi : (.instantiable "CapabilityDomains$Field" 3 : Cond) ∈ lw_tbl ∧ cd_gw (.instantiable "CapabilityDomains$Field" 3) = true := cd_tw 245 (by decide +kernel) (by decide +kernel)
theorem ml_Ob_17 : (.methodLink "CapabilityDomains$DomainObject" 17 ⟨"CapabilityDomains$Field", "<init>", "()V"⟩ : Cond) ∈ lw_tbl ∧ cd_gw (.methodLink "CapabilityDomains$DomainObject" 17 ⟨"CapabilityDomains$Field", "<init>", "()V"⟩) = true := cd_tw 246 (by decide +kernel) (by decide +kernel)
theorem im_Fi_init : (.instanceMethod ⟨"CapabilityDomains$Field", "<init>", "()V"⟩ : Cond) ∈ lw_tbl ∧ cd_gw (.instanceMethod ⟨"CapabilityDomains$Field", "<init>", "()V"⟩) = true := cd_tw 247 (by decide +kernel) (by decide +kernel)
theorem cw_Fi_init : (.code ⟨"CapabilityDomains$Field", "<init>", "()V"⟩ prog_5_method_1_code 1 none : Cond) ∈ lw_tbl ∧ cd_gw (.code ⟨"CapabilityDomains$Field", "<init>", "()V"⟩ prog_5_method_1_code 1 none) = true := cd_tw 248 (by decide +kernel) (by decide +kernel)
theorem ml_Fi_3 : (.methodLink "CapabilityDomains$Field" 3 ⟨"java/lang/Object", "<init>", "()V"⟩ : Cond) ∈ lw_tbl ∧ cd_gw (.methodLink "CapabilityDomains$Field" 3 ⟨"java/lang/Object", "<init>", "()V"⟩) = true := cd_tw 249 (by decide +kernel) (by decide +kernel)
theorem lk_Fi_19 : (.fieldLink "CapabilityDomains$Field" 19 "CapabilityDomains$Field" "number" "I" : Cond) ∈ lw_tbl ∧ cd_gw (.fieldLink "CapabilityDomains$Field" 19 "CapabilityDomains$Field" "number" "I") = true := cd_tw 250 (by decide +kernel) (by decide +kernel)
theorem lk_Cd_60 : (.fieldLink "CapabilityDomains" 60 "CapabilityDomains$Field" "number" "I" : Cond) ∈ lw_tbl ∧ cd_gw (.fieldLink "CapabilityDomains" 60 "CapabilityDomains$Field" "number" "I") = true := cd_tw 251 (by decide +kernel) (by decide +kernel)
theorem lk_Re_79 : (.fieldLink "CapabilityDomains$Reach" 79 "CapabilityDomains$Field" "number" "I" : Cond) ∈ lw_tbl ∧ cd_gw (.fieldLink "CapabilityDomains$Reach" 79 "CapabilityDomains$Field" "number" "I") = true := cd_tw 252 (by decide +kernel) (by decide +kernel)
theorem lk_Fi_9 : (.fieldLink "CapabilityDomains$Field" 9 "CapabilityDomains$Field" "link" "I" : Cond) ∈ lw_tbl ∧ cd_gw (.fieldLink "CapabilityDomains$Field" 9 "CapabilityDomains$Field" "link" "I") = true := cd_tw 253 (by decide +kernel) (by decide +kernel)
theorem lk_Ob_26 : (.fieldLink "CapabilityDomains$DomainObject" 26 "CapabilityDomains$Field" "link" "I" : Cond) ∈ lw_tbl ∧ cd_gw (.fieldLink "CapabilityDomains$DomainObject" 26 "CapabilityDomains$Field" "link" "I") = true := cd_tw 254 (by decide +kernel) (by decide +kernel)
theorem lk_Re_50 : (.fieldLink "CapabilityDomains$Reach" 50 "CapabilityDomains$Field" "link" "I" : Cond) ∈ lw_tbl ∧ cd_gw (.fieldLink "CapabilityDomains$Reach" 50 "CapabilityDomains$Field" "link" "I") = true := cd_tw 255 (by decide +kernel) (by decide +kernel)
theorem lk_Cd_218 : (.fieldLink "CapabilityDomains" 218 "CapabilityDomains$Field" "link" "I" : Cond) ∈ lw_tbl ∧ cd_gw (.fieldLink "CapabilityDomains" 218 "CapabilityDomains$Field" "link" "I") = true := cd_tw 256 (by decide +kernel) (by decide +kernel)
theorem lk_Fi_15 : (.fieldLink "CapabilityDomains$Field" 15 "CapabilityDomains$Field" "capability" "LCapabilityDomains$Capability;" : Cond) ∈ lw_tbl ∧ cd_gw (.fieldLink "CapabilityDomains$Field" 15 "CapabilityDomains$Field" "capability" "LCapabilityDomains$Capability;") = true := cd_tw 257 (by decide +kernel) (by decide +kernel)
theorem lk_Re_71 : (.fieldLink "CapabilityDomains$Reach" 71 "CapabilityDomains$Field" "capability" "LCapabilityDomains$Capability;" : Cond) ∈ lw_tbl ∧ cd_gw (.fieldLink "CapabilityDomains$Reach" 71 "CapabilityDomains$Field" "capability" "LCapabilityDomains$Capability;") = true := cd_tw 258 (by decide +kernel) (by decide +kernel)
theorem lk_Cd_188 : (.fieldLink "CapabilityDomains" 188 "CapabilityDomains$Field" "capability" "LCapabilityDomains$Capability;" : Cond) ∈ lw_tbl ∧ cd_gw (.fieldLink "CapabilityDomains" 188 "CapabilityDomains$Field" "capability" "LCapabilityDomains$Capability;") = true := cd_tw 259 (by decide +kernel) (by decide +kernel)
theorem lk_Ob_18 : (.fieldLink "CapabilityDomains$DomainObject" 18 "CapabilityDomains$DomainObject" "there" "Z" : Cond) ∈ lw_tbl ∧ cd_gw (.fieldLink "CapabilityDomains$DomainObject" 18 "CapabilityDomains$DomainObject" "there" "Z") = true := cd_tw 267 (by decide +kernel) (by decide +kernel)
theorem lk_Do_24 : (.fieldLink "CapabilityDomains$Domain" 24 "CapabilityDomains$DomainObject" "there" "Z" : Cond) ∈ lw_tbl ∧ cd_gw (.fieldLink "CapabilityDomains$Domain" 24 "CapabilityDomains$DomainObject" "there" "Z") = true := cd_tw 268 (by decide +kernel) (by decide +kernel)
theorem lk_Ob_11 : (.fieldLink "CapabilityDomains$DomainObject" 11 "CapabilityDomains$DomainObject" "fields" "[LCapabilityDomains$Field;" : Cond) ∈ lw_tbl ∧ cd_gw (.fieldLink "CapabilityDomains$DomainObject" 11 "CapabilityDomains$DomainObject" "fields" "[LCapabilityDomains$Field;") = true := cd_tw 269 (by decide +kernel) (by decide +kernel)
theorem lk_Re_44 : (.fieldLink "CapabilityDomains$Reach" 44 "CapabilityDomains$DomainObject" "fields" "[LCapabilityDomains$Field;" : Cond) ∈ lw_tbl ∧ cd_gw (.fieldLink "CapabilityDomains$Reach" 44 "CapabilityDomains$DomainObject" "fields" "[LCapabilityDomains$Field;") = true := cd_tw 270 (by decide +kernel) (by decide +kernel)
theorem lk_Cd_209 : (.fieldLink "CapabilityDomains" 209 "CapabilityDomains$DomainObject" "fields" "[LCapabilityDomains$Field;" : Cond) ∈ lw_tbl ∧ cd_gw (.fieldLink "CapabilityDomains" 209 "CapabilityDomains$DomainObject" "fields" "[LCapabilityDomains$Field;") = true := cd_tw 271 (by decide +kernel) (by decide +kernel)
theorem kl_Do_18 : (.classLink "CapabilityDomains$Domain" 18 "CapabilityDomains$Capability" : Cond) ∈ lw_tbl ∧ cd_gw (.classLink "CapabilityDomains$Domain" 18 "CapabilityDomains$Capability") = true := cd_tw 277 (by decide +kernel) (by decide +kernel)
theorem lk_Ca_31 : (.fieldLink "CapabilityDomains$Capability" 31 "CapabilityDomains$Domain" "ended" "Z" : Cond) ∈ lw_tbl ∧ cd_gw (.fieldLink "CapabilityDomains$Capability" 31 "CapabilityDomains$Domain" "ended" "Z") = true := cd_tw 278 (by decide +kernel) (by decide +kernel)
theorem lk_Do_35 : (.fieldLink "CapabilityDomains$Domain" 35 "CapabilityDomains$Domain" "ended" "Z" : Cond) ∈ lw_tbl ∧ cd_gw (.fieldLink "CapabilityDomains$Domain" 35 "CapabilityDomains$Domain" "ended" "Z") = true := cd_tw 279 (by decide +kernel) (by decide +kernel)
theorem lk_Cd_224 : (.fieldLink "CapabilityDomains" 224 "CapabilityDomains$Domain" "ended" "Z" : Cond) ∈ lw_tbl ∧ cd_gw (.fieldLink "CapabilityDomains" 224 "CapabilityDomains$Domain" "ended" "Z") = true := cd_tw 280 (by decide +kernel) (by decide +kernel)
theorem lk_Do_11 : (.fieldLink "CapabilityDomains$Domain" 11 "CapabilityDomains$Domain" "objects" "[LCapabilityDomains$DomainObject;" : Cond) ∈ lw_tbl ∧ cd_gw (.fieldLink "CapabilityDomains$Domain" 11 "CapabilityDomains$Domain" "objects" "[LCapabilityDomains$DomainObject;") = true := cd_tw 281 (by decide +kernel) (by decide +kernel)
theorem lk_Re_40 : (.fieldLink "CapabilityDomains$Reach" 40 "CapabilityDomains$Domain" "objects" "[LCapabilityDomains$DomainObject;" : Cond) ∈ lw_tbl ∧ cd_gw (.fieldLink "CapabilityDomains$Reach" 40 "CapabilityDomains$Domain" "objects" "[LCapabilityDomains$DomainObject;") = true := cd_tw 282 (by decide +kernel) (by decide +kernel)
theorem lk_Cd_205 : (.fieldLink "CapabilityDomains" 205 "CapabilityDomains$Domain" "objects" "[LCapabilityDomains$DomainObject;" : Cond) ∈ lw_tbl ∧ cd_gw (.fieldLink "CapabilityDomains" 205 "CapabilityDomains$Domain" "objects" "[LCapabilityDomains$DomainObject;") = true := cd_tw 283 (by decide +kernel) (by decide +kernel)
theorem lk_Do_20 : (.fieldLink "CapabilityDomains$Domain" 20 "CapabilityDomains$Domain" "slots" "[LCapabilityDomains$Capability;" : Cond) ∈ lw_tbl ∧ cd_gw (.fieldLink "CapabilityDomains$Domain" 20 "CapabilityDomains$Domain" "slots" "[LCapabilityDomains$Capability;") = true := cd_tw 284 (by decide +kernel) (by decide +kernel)
theorem lk_Cd_227 : (.fieldLink "CapabilityDomains" 227 "CapabilityDomains$Domain" "slots" "[LCapabilityDomains$Capability;" : Cond) ∈ lw_tbl ∧ cd_gw (.fieldLink "CapabilityDomains" 227 "CapabilityDomains$Domain" "slots" "[LCapabilityDomains$Capability;") = true := cd_tw 285 (by decide +kernel) (by decide +kernel)
theorem ml_La_85 : (.methodLink "CapabilityDomainsLaw" 85 ⟨"CapabilityDomainsLaw", "object", "(LCapabilityDomains;I[J)I"⟩ : Cond) ∈ lw_tbl ∧ cd_gw (.methodLink "CapabilityDomainsLaw" 85 ⟨"CapabilityDomainsLaw", "object", "(LCapabilityDomains;I[J)I"⟩) = true := cd_tw 293 (by decide +kernel) (by decide +kernel)
theorem st_La_object : (.static ⟨"CapabilityDomainsLaw", "object", "(LCapabilityDomains;I[J)I"⟩ : Cond) ∈ lw_tbl ∧ cd_gw (.static ⟨"CapabilityDomainsLaw", "object", "(LCapabilityDomains;I[J)I"⟩) = true := cd_tw 294 (by decide +kernel) (by decide +kernel)
theorem cw_La_object : (.codeWith ⟨"CapabilityDomainsLaw", "object", "(LCapabilityDomains;I[J)I"⟩ method_4_code 4 (some .int) [(0, 9, 12, 19), (0, 9, 15, 13), (0, 9, 18, 21)] : Cond) ∈ lw_tbl ∧ cd_gw (.codeWith ⟨"CapabilityDomainsLaw", "object", "(LCapabilityDomains;I[J)I"⟩ method_4_code 4 (some .int) [(0, 9, 12, 19), (0, 9, 15, 13), (0, 9, 18, 21)]) = true := cd_tw 295 (by decide +kernel) (by decide +kernel)
theorem kl_La_19 : (.classLink "CapabilityDomainsLaw" 19 "java/lang/IllegalArgumentException" : Cond) ∈ lw_tbl ∧ cd_gw (.classLink "CapabilityDomainsLaw" 19 "java/lang/IllegalArgumentException") = true := cd_tw 296 (by decide +kernel) (by decide +kernel)
theorem kl_La_21 : (.classLink "CapabilityDomainsLaw" 21 "java/lang/ArithmeticException" : Cond) ∈ lw_tbl ∧ cd_gw (.classLink "CapabilityDomainsLaw" 21 "java/lang/ArithmeticException") = true := cd_tw 297 (by decide +kernel) (by decide +kernel)
theorem ml_La_15 : (.methodLink "CapabilityDomainsLaw" 15 ⟨"CapabilityDomains", "object", "(I)I"⟩ : Cond) ∈ lw_tbl ∧ cd_gw (.methodLink "CapabilityDomainsLaw" 15 ⟨"CapabilityDomains", "object", "(I)I"⟩) = true := cd_tw 298 (by decide +kernel) (by decide +kernel)
theorem im_Cd_object : (.instanceMethod ⟨"CapabilityDomains", "object", "(I)I"⟩ : Cond) ∈ lw_tbl ∧ cd_gw (.instanceMethod ⟨"CapabilityDomains", "object", "(I)I"⟩) = true := cd_tw 299 (by decide +kernel) (by decide +kernel)
theorem se_Cd_object : (.selects "CapabilityDomains" ⟨"CapabilityDomains", "object", "(I)I"⟩ ⟨"CapabilityDomains", "object", "(I)I"⟩ : Cond) ∈ lw_tbl ∧ cd_gw (.selects "CapabilityDomains" ⟨"CapabilityDomains", "object", "(I)I"⟩ ⟨"CapabilityDomains", "object", "(I)I"⟩) = true := cd_tw 300 (by decide +kernel) (by decide +kernel)
theorem cw_Cd_object : (.code ⟨"CapabilityDomains", "object", "(I)I"⟩ prog_1_method_3_code 3 (some .int) : Cond) ∈ lw_tbl ∧ cd_gw (.code ⟨"CapabilityDomains", "object", "(I)I"⟩ prog_1_method_3_code 3 (some .int)) = true := cd_tw 301 (by decide +kernel) (by decide +kernel)
theorem ml_Cd_40 : (.methodLink "CapabilityDomains" 40 ⟨"CapabilityDomains", "livingDomain", "(I)LCapabilityDomains$Domain;"⟩ : Cond) ∈ lw_tbl ∧ cd_gw (.methodLink "CapabilityDomains" 40 ⟨"CapabilityDomains", "livingDomain", "(I)LCapabilityDomains$Domain;"⟩) = true := cd_tw 302 (by decide +kernel) (by decide +kernel)
theorem im_Cd_livingDomain : (.instanceMethod ⟨"CapabilityDomains", "livingDomain", "(I)LCapabilityDomains$Domain;"⟩ : Cond) ∈ lw_tbl ∧ cd_gw (.instanceMethod ⟨"CapabilityDomains", "livingDomain", "(I)LCapabilityDomains$Domain;"⟩) = true := cd_tw 304 (by decide +kernel) (by decide +kernel)
theorem cw_Cd_livingDomain : (.code ⟨"CapabilityDomains", "livingDomain", "(I)LCapabilityDomains$Domain;"⟩ prog_1_method_30_code 2 (some (.object "CapabilityDomains$Domain")) : Cond) ∈ lw_tbl ∧ cd_gw (.code ⟨"CapabilityDomains", "livingDomain", "(I)LCapabilityDomains$Domain;"⟩ prog_1_method_30_code 2 (some (.object "CapabilityDomains$Domain"))) = true := cd_tw 305 (by decide +kernel) (by decide +kernel)
theorem kl_Cd_242 : (.classLink "CapabilityDomains" 242 "java/lang/IllegalArgumentException" : Cond) ∈ lw_tbl ∧ cd_gw (.classLink "CapabilityDomains" 242 "java/lang/IllegalArgumentException") = true := cd_tw 306 (by decide +kernel) (by decide +kernel)
theorem ia_IllegalArgumentException : (.instantiable "java/lang/IllegalArgumentException" 6 : Cond) ∈ lw_tbl ∧ cd_gw (.instantiable "java/lang/IllegalArgumentException" 6) = true := cd_tw 307 (by decide +kernel) (by decide +kernel)
theorem ca_IllegalArgumentException : (.castable "java/lang/IllegalArgumentException" "java/lang/IllegalArgumentException" : Cond) ∈ lw_tbl ∧ cd_gw (.castable "java/lang/IllegalArgumentException" "java/lang/IllegalArgumentException") = true := cd_tw 308 (by decide +kernel) (by decide +kernel)
theorem ml_Cd_246 : (.methodLink "CapabilityDomains" 246 ⟨"java/lang/IllegalArgumentException", "<init>", "(Ljava/lang/String;)V"⟩ : Cond) ∈ lw_tbl ∧ cd_gw (.methodLink "CapabilityDomains" 246 ⟨"java/lang/IllegalArgumentException", "<init>", "(Ljava/lang/String;)V"⟩) = true := cd_tw 316 (by decide +kernel) (by decide +kernel)
theorem ml_IllegalArgumentException_7 : (.methodLink "java/lang/IllegalArgumentException" 7 ⟨"java/lang/RuntimeException", "<init>", "(Ljava/lang/String;)V"⟩ : Cond) ∈ lw_tbl ∧ cd_gw (.methodLink "java/lang/IllegalArgumentException" 7 ⟨"java/lang/RuntimeException", "<init>", "(Ljava/lang/String;)V"⟩) = true := cd_tw 319 (by decide +kernel) (by decide +kernel)
theorem kl_Cd_48 : (.classLink "CapabilityDomains" 48 "java/lang/ArithmeticException" : Cond) ∈ lw_tbl ∧ cd_gw (.classLink "CapabilityDomains" 48 "java/lang/ArithmeticException") = true := cd_tw 323 (by decide +kernel) (by decide +kernel)
theorem ia_ArithmeticException : (.instantiable "java/lang/ArithmeticException" 6 : Cond) ∈ lw_tbl ∧ cd_gw (.instantiable "java/lang/ArithmeticException" 6) = true := cd_tw 324 (by decide +kernel) (by decide +kernel)
theorem ca_ArithmeticException : (.castable "java/lang/ArithmeticException" "java/lang/ArithmeticException" : Cond) ∈ lw_tbl ∧ cd_gw (.castable "java/lang/ArithmeticException" "java/lang/ArithmeticException") = true := cd_tw 325 (by decide +kernel) (by decide +kernel)
theorem ml_Cd_52 : (.methodLink "CapabilityDomains" 52 ⟨"java/lang/ArithmeticException", "<init>", "(Ljava/lang/String;)V"⟩ : Cond) ∈ lw_tbl ∧ cd_gw (.methodLink "CapabilityDomains" 52 ⟨"java/lang/ArithmeticException", "<init>", "(Ljava/lang/String;)V"⟩) = true := cd_tw 333 (by decide +kernel) (by decide +kernel)
theorem ml_ArithmeticException_7 : (.methodLink "java/lang/ArithmeticException" 7 ⟨"java/lang/RuntimeException", "<init>", "(Ljava/lang/String;)V"⟩ : Cond) ∈ lw_tbl ∧ cd_gw (.methodLink "java/lang/ArithmeticException" 7 ⟨"java/lang/RuntimeException", "<init>", "(Ljava/lang/String;)V"⟩) = true := cd_tw 336 (by decide +kernel) (by decide +kernel)
theorem ml_Cd_53 : (.methodLink "CapabilityDomains" 53 ⟨"CapabilityDomains$Domain", "makeObject", "()I"⟩ : Cond) ∈ lw_tbl ∧ cd_gw (.methodLink "CapabilityDomains" 53 ⟨"CapabilityDomains$Domain", "makeObject", "()I"⟩) = true := cd_tw 339 (by decide +kernel) (by decide +kernel)
theorem im_Do_makeObject : (.instanceMethod ⟨"CapabilityDomains$Domain", "makeObject", "()I"⟩ : Cond) ∈ lw_tbl ∧ cd_gw (.instanceMethod ⟨"CapabilityDomains$Domain", "makeObject", "()I"⟩) = true := cd_tw 340 (by decide +kernel) (by decide +kernel)
theorem se_Do_makeObject : (.selects "CapabilityDomains$Domain" ⟨"CapabilityDomains$Domain", "makeObject", "()I"⟩ ⟨"CapabilityDomains$Domain", "makeObject", "()I"⟩ : Cond) ∈ lw_tbl ∧ cd_gw (.selects "CapabilityDomains$Domain" ⟨"CapabilityDomains$Domain", "makeObject", "()I"⟩ ⟨"CapabilityDomains$Domain", "makeObject", "()I"⟩) = true := cd_tw 341 (by decide +kernel) (by decide +kernel)
theorem cw_Do_makeObject : (.code ⟨"CapabilityDomains$Domain", "makeObject", "()I"⟩ prog_3_method_4_code 2 (some .int) : Cond) ∈ lw_tbl ∧ cd_gw (.code ⟨"CapabilityDomains$Domain", "makeObject", "()I"⟩ prog_3_method_4_code 2 (some .int)) = true := cd_tw 342 (by decide +kernel) (by decide +kernel)
theorem ml_Do_28 : (.methodLink "CapabilityDomains$Domain" 28 ⟨"CapabilityDomains$DomainObject", "begin", "()V"⟩ : Cond) ∈ lw_tbl ∧ cd_gw (.methodLink "CapabilityDomains$Domain" 28 ⟨"CapabilityDomains$DomainObject", "begin", "()V"⟩) = true := cd_tw 343 (by decide +kernel) (by decide +kernel)
theorem im_Ob_begin : (.instanceMethod ⟨"CapabilityDomains$DomainObject", "begin", "()V"⟩ : Cond) ∈ lw_tbl ∧ cd_gw (.instanceMethod ⟨"CapabilityDomains$DomainObject", "begin", "()V"⟩) = true := cd_tw 344 (by decide +kernel) (by decide +kernel)
theorem se_Ob_begin : (.selects "CapabilityDomains$DomainObject" ⟨"CapabilityDomains$DomainObject", "begin", "()V"⟩ ⟨"CapabilityDomains$DomainObject", "begin", "()V"⟩ : Cond) ∈ lw_tbl ∧ cd_gw (.selects "CapabilityDomains$DomainObject" ⟨"CapabilityDomains$DomainObject", "begin", "()V"⟩ ⟨"CapabilityDomains$DomainObject", "begin", "()V"⟩) = true := cd_tw 345 (by decide +kernel) (by decide +kernel)
theorem cw_Ob_begin : (.code ⟨"CapabilityDomains$DomainObject", "begin", "()V"⟩ prog_4_method_2_code 2 none : Cond) ∈ lw_tbl ∧ cd_gw (.code ⟨"CapabilityDomains$DomainObject", "begin", "()V"⟩ prog_4_method_2_code 2 none) = true := cd_tw 346 (by decide +kernel) (by decide +kernel)
theorem ml_Ob_22 : (.methodLink "CapabilityDomains$DomainObject" 22 ⟨"CapabilityDomains$Field", "becomeNumber", "(I)V"⟩ : Cond) ∈ lw_tbl ∧ cd_gw (.methodLink "CapabilityDomains$DomainObject" 22 ⟨"CapabilityDomains$Field", "becomeNumber", "(I)V"⟩) = true := cd_tw 347 (by decide +kernel) (by decide +kernel)
theorem im_Fi_becomeNumber : (.instanceMethod ⟨"CapabilityDomains$Field", "becomeNumber", "(I)V"⟩ : Cond) ∈ lw_tbl ∧ cd_gw (.instanceMethod ⟨"CapabilityDomains$Field", "becomeNumber", "(I)V"⟩) = true := cd_tw 348 (by decide +kernel) (by decide +kernel)
theorem se_Fi_becomeNumber : (.selects "CapabilityDomains$Field" ⟨"CapabilityDomains$Field", "becomeNumber", "(I)V"⟩ ⟨"CapabilityDomains$Field", "becomeNumber", "(I)V"⟩ : Cond) ∈ lw_tbl ∧ cd_gw (.selects "CapabilityDomains$Field" ⟨"CapabilityDomains$Field", "becomeNumber", "(I)V"⟩ ⟨"CapabilityDomains$Field", "becomeNumber", "(I)V"⟩) = true := cd_tw 349 (by decide +kernel) (by decide +kernel)
theorem cw_Fi_becomeNumber : (.code ⟨"CapabilityDomains$Field", "becomeNumber", "(I)V"⟩ prog_5_method_4_code 2 none : Cond) ∈ lw_tbl ∧ cd_gw (.code ⟨"CapabilityDomains$Field", "becomeNumber", "(I)V"⟩ prog_5_method_4_code 2 none) = true := cd_tw 350 (by decide +kernel) (by decide +kernel)
theorem ml_La_89 : (.methodLink "CapabilityDomainsLaw" 89 ⟨"CapabilityDomainsLaw", "set", "(LCapabilityDomains;IIII[J)I"⟩ : Cond) ∈ lw_tbl ∧ cd_gw (.methodLink "CapabilityDomainsLaw" 89 ⟨"CapabilityDomainsLaw", "set", "(LCapabilityDomains;IIII[J)I"⟩) = true := cd_tw 351 (by decide +kernel) (by decide +kernel)
theorem st_La_set : (.static ⟨"CapabilityDomainsLaw", "set", "(LCapabilityDomains;IIII[J)I"⟩ : Cond) ∈ lw_tbl ∧ cd_gw (.static ⟨"CapabilityDomainsLaw", "set", "(LCapabilityDomains;IIII[J)I"⟩) = true := cd_tw 352 (by decide +kernel) (by decide +kernel)
theorem cw_La_set : (.codeWith ⟨"CapabilityDomainsLaw", "set", "(LCapabilityDomains;IIII[J)I"⟩ method_5_code 7 (some .int) [(0, 14, 17, 19), (0, 14, 21, 13), (0, 14, 25, 27), (0, 14, 29, 29)] : Cond) ∈ lw_tbl ∧ cd_gw (.codeWith ⟨"CapabilityDomainsLaw", "set", "(LCapabilityDomains;IIII[J)I"⟩ method_5_code 7 (some .int) [(0, 14, 17, 19), (0, 14, 21, 13), (0, 14, 25, 27), (0, 14, 29, 29)]) = true := cd_tw 353 (by decide +kernel) (by decide +kernel)
theorem kl_La_27 : (.classLink "CapabilityDomainsLaw" 27 "java/util/NoSuchElementException" : Cond) ∈ lw_tbl ∧ cd_gw (.classLink "CapabilityDomainsLaw" 27 "java/util/NoSuchElementException") = true := cd_tw 354 (by decide +kernel) (by decide +kernel)
theorem kl_La_29 : (.classLink "CapabilityDomainsLaw" 29 "java/lang/IndexOutOfBoundsException" : Cond) ∈ lw_tbl ∧ cd_gw (.classLink "CapabilityDomainsLaw" 29 "java/lang/IndexOutOfBoundsException") = true := cd_tw 355 (by decide +kernel) (by decide +kernel)
theorem ml_La_23 : (.methodLink "CapabilityDomainsLaw" 23 ⟨"CapabilityDomains", "set", "(IIII)I"⟩ : Cond) ∈ lw_tbl ∧ cd_gw (.methodLink "CapabilityDomainsLaw" 23 ⟨"CapabilityDomains", "set", "(IIII)I"⟩) = true := cd_tw 356 (by decide +kernel) (by decide +kernel)
theorem im_Cd_set : (.instanceMethod ⟨"CapabilityDomains", "set", "(IIII)I"⟩ : Cond) ∈ lw_tbl ∧ cd_gw (.instanceMethod ⟨"CapabilityDomains", "set", "(IIII)I"⟩) = true := cd_tw 357 (by decide +kernel) (by decide +kernel)
theorem se_Cd_set : (.selects "CapabilityDomains" ⟨"CapabilityDomains", "set", "(IIII)I"⟩ ⟨"CapabilityDomains", "set", "(IIII)I"⟩ : Cond) ∈ lw_tbl ∧ cd_gw (.selects "CapabilityDomains" ⟨"CapabilityDomains", "set", "(IIII)I"⟩ ⟨"CapabilityDomains", "set", "(IIII)I"⟩) = true := cd_tw 358 (by decide +kernel) (by decide +kernel)
theorem cw_Cd_set : (.code ⟨"CapabilityDomains", "set", "(IIII)I"⟩ prog_1_method_4_code 7 (some .int) : Cond) ∈ lw_tbl ∧ cd_gw (.code ⟨"CapabilityDomains", "set", "(IIII)I"⟩ prog_1_method_4_code 7 (some .int)) = true := cd_tw 359 (by decide +kernel) (by decide +kernel)
theorem ml_Cd_56 : (.methodLink "CapabilityDomains" 56 ⟨"CapabilityDomains", "fieldOf", "(LCapabilityDomains$Domain;II)LCapabilityDomains$Field;"⟩ : Cond) ∈ lw_tbl ∧ cd_gw (.methodLink "CapabilityDomains" 56 ⟨"CapabilityDomains", "fieldOf", "(LCapabilityDomains$Domain;II)LCapabilityDomains$Field;"⟩) = true := cd_tw 360 (by decide +kernel) (by decide +kernel)
theorem st_Cd_fieldOf : (.static ⟨"CapabilityDomains", "fieldOf", "(LCapabilityDomains$Domain;II)LCapabilityDomains$Field;"⟩ : Cond) ∈ lw_tbl ∧ cd_gw (.static ⟨"CapabilityDomains", "fieldOf", "(LCapabilityDomains$Domain;II)LCapabilityDomains$Field;"⟩) = true := cd_tw 361 (by decide +kernel) (by decide +kernel)
theorem cw_Cd_fieldOf : (.code ⟨"CapabilityDomains", "fieldOf", "(LCapabilityDomains$Domain;II)LCapabilityDomains$Field;"⟩ prog_1_method_31_code 3 (some (.object "CapabilityDomains$Field")) : Cond) ∈ lw_tbl ∧ cd_gw (.code ⟨"CapabilityDomains", "fieldOf", "(LCapabilityDomains$Domain;II)LCapabilityDomains$Field;"⟩ prog_1_method_31_code 3 (some (.object "CapabilityDomains$Field"))) = true := cd_tw 362 (by decide +kernel) (by decide +kernel)
theorem kl_Cd_73 : (.classLink "CapabilityDomains" 73 "java/util/NoSuchElementException" : Cond) ∈ lw_tbl ∧ cd_gw (.classLink "CapabilityDomains" 73 "java/util/NoSuchElementException") = true := cd_tw 363 (by decide +kernel) (by decide +kernel)
theorem ia_NoSuchElementException : (.instantiable "java/util/NoSuchElementException" 6 : Cond) ∈ lw_tbl ∧ cd_gw (.instantiable "java/util/NoSuchElementException" 6) = true := cd_tw 364 (by decide +kernel) (by decide +kernel)
theorem ca_NoSuchElementException : (.castable "java/util/NoSuchElementException" "java/util/NoSuchElementException" : Cond) ∈ lw_tbl ∧ cd_gw (.castable "java/util/NoSuchElementException" "java/util/NoSuchElementException") = true := cd_tw 365 (by decide +kernel) (by decide +kernel)
theorem ml_Cd_77 : (.methodLink "CapabilityDomains" 77 ⟨"java/util/NoSuchElementException", "<init>", "(Ljava/lang/String;)V"⟩ : Cond) ∈ lw_tbl ∧ cd_gw (.methodLink "CapabilityDomains" 77 ⟨"java/util/NoSuchElementException", "<init>", "(Ljava/lang/String;)V"⟩) = true := cd_tw 373 (by decide +kernel) (by decide +kernel)
theorem ml_NoSuchElementException_13 : (.methodLink "java/util/NoSuchElementException" 13 ⟨"java/lang/RuntimeException", "<init>", "(Ljava/lang/String;)V"⟩ : Cond) ∈ lw_tbl ∧ cd_gw (.methodLink "java/util/NoSuchElementException" 13 ⟨"java/lang/RuntimeException", "<init>", "(Ljava/lang/String;)V"⟩) = true := cd_tw 376 (by decide +kernel) (by decide +kernel)
theorem kl_Cd_84 : (.classLink "CapabilityDomains" 84 "java/lang/IndexOutOfBoundsException" : Cond) ∈ lw_tbl ∧ cd_gw (.classLink "CapabilityDomains" 84 "java/lang/IndexOutOfBoundsException") = true := cd_tw 379 (by decide +kernel) (by decide +kernel)
theorem ia_IndexOutOfBoundsException : (.instantiable "java/lang/IndexOutOfBoundsException" 6 : Cond) ∈ lw_tbl ∧ cd_gw (.instantiable "java/lang/IndexOutOfBoundsException" 6) = true := cd_tw 380 (by decide +kernel) (by decide +kernel)
theorem ca_IndexOutOfBoundsException : (.castable "java/lang/IndexOutOfBoundsException" "java/lang/IndexOutOfBoundsException" : Cond) ∈ lw_tbl ∧ cd_gw (.castable "java/lang/IndexOutOfBoundsException" "java/lang/IndexOutOfBoundsException") = true := cd_tw 381 (by decide +kernel) (by decide +kernel)
theorem ml_Cd_88 : (.methodLink "CapabilityDomains" 88 ⟨"java/lang/IndexOutOfBoundsException", "<init>", "(Ljava/lang/String;)V"⟩ : Cond) ∈ lw_tbl ∧ cd_gw (.methodLink "CapabilityDomains" 88 ⟨"java/lang/IndexOutOfBoundsException", "<init>", "(Ljava/lang/String;)V"⟩) = true := cd_tw 389 (by decide +kernel) (by decide +kernel)
theorem ml_IndexOutOfBoundsException_7 : (.methodLink "java/lang/IndexOutOfBoundsException" 7 ⟨"java/lang/RuntimeException", "<init>", "(Ljava/lang/String;)V"⟩ : Cond) ∈ lw_tbl ∧ cd_gw (.methodLink "java/lang/IndexOutOfBoundsException" 7 ⟨"java/lang/RuntimeException", "<init>", "(Ljava/lang/String;)V"⟩) = true := cd_tw 392 (by decide +kernel) (by decide +kernel)
theorem ml_Cd_65 : (.methodLink "CapabilityDomains" 65 ⟨"CapabilityDomains$Field", "becomeNumber", "(I)V"⟩ : Cond) ∈ lw_tbl ∧ cd_gw (.methodLink "CapabilityDomains" 65 ⟨"CapabilityDomains$Field", "becomeNumber", "(I)V"⟩) = true := cd_tw 395 (by decide +kernel) (by decide +kernel)
theorem ml_La_93 : (.methodLink "CapabilityDomainsLaw" 93 ⟨"CapabilityDomainsLaw", "link", "(LCapabilityDomains;IIII[J)I"⟩ : Cond) ∈ lw_tbl ∧ cd_gw (.methodLink "CapabilityDomainsLaw" 93 ⟨"CapabilityDomainsLaw", "link", "(LCapabilityDomains;IIII[J)I"⟩) = true := cd_tw 396 (by decide +kernel) (by decide +kernel)
theorem st_La_link : (.static ⟨"CapabilityDomainsLaw", "link", "(LCapabilityDomains;IIII[J)I"⟩ : Cond) ∈ lw_tbl ∧ cd_gw (.static ⟨"CapabilityDomainsLaw", "link", "(LCapabilityDomains;IIII[J)I"⟩) = true := cd_tw 397 (by decide +kernel) (by decide +kernel)
theorem cw_La_link : (.codeWith ⟨"CapabilityDomainsLaw", "link", "(LCapabilityDomains;IIII[J)I"⟩ method_6_code 7 (some .int) [(0, 14, 17, 19), (0, 14, 21, 13), (0, 14, 25, 27), (0, 14, 29, 29)] : Cond) ∈ lw_tbl ∧ cd_gw (.codeWith ⟨"CapabilityDomainsLaw", "link", "(LCapabilityDomains;IIII[J)I"⟩ method_6_code 7 (some .int) [(0, 14, 17, 19), (0, 14, 21, 13), (0, 14, 25, 27), (0, 14, 29, 29)]) = true := cd_tw 398 (by decide +kernel) (by decide +kernel)
theorem ml_La_31 : (.methodLink "CapabilityDomainsLaw" 31 ⟨"CapabilityDomains", "link", "(IIII)I"⟩ : Cond) ∈ lw_tbl ∧ cd_gw (.methodLink "CapabilityDomainsLaw" 31 ⟨"CapabilityDomains", "link", "(IIII)I"⟩) = true := cd_tw 399 (by decide +kernel) (by decide +kernel)
theorem im_Cd_link : (.instanceMethod ⟨"CapabilityDomains", "link", "(IIII)I"⟩ : Cond) ∈ lw_tbl ∧ cd_gw (.instanceMethod ⟨"CapabilityDomains", "link", "(IIII)I"⟩) = true := cd_tw 400 (by decide +kernel) (by decide +kernel)
theorem se_Cd_link : (.selects "CapabilityDomains" ⟨"CapabilityDomains", "link", "(IIII)I"⟩ ⟨"CapabilityDomains", "link", "(IIII)I"⟩ : Cond) ∈ lw_tbl ∧ cd_gw (.selects "CapabilityDomains" ⟨"CapabilityDomains", "link", "(IIII)I"⟩ ⟨"CapabilityDomains", "link", "(IIII)I"⟩) = true := cd_tw 401 (by decide +kernel) (by decide +kernel)
theorem cw_Cd_link : (.code ⟨"CapabilityDomains", "link", "(IIII)I"⟩ prog_1_method_5_code 7 (some .int) : Cond) ∈ lw_tbl ∧ cd_gw (.code ⟨"CapabilityDomains", "link", "(IIII)I"⟩ prog_1_method_5_code 7 (some .int)) = true := cd_tw 402 (by decide +kernel) (by decide +kernel)
theorem ml_Cd_78 : (.methodLink "CapabilityDomains" 78 ⟨"CapabilityDomains$Field", "becomeLink", "(I)V"⟩ : Cond) ∈ lw_tbl ∧ cd_gw (.methodLink "CapabilityDomains" 78 ⟨"CapabilityDomains$Field", "becomeLink", "(I)V"⟩) = true := cd_tw 404 (by decide +kernel) (by decide +kernel)
theorem im_Fi_becomeLink : (.instanceMethod ⟨"CapabilityDomains$Field", "becomeLink", "(I)V"⟩ : Cond) ∈ lw_tbl ∧ cd_gw (.instanceMethod ⟨"CapabilityDomains$Field", "becomeLink", "(I)V"⟩) = true := cd_tw 405 (by decide +kernel) (by decide +kernel)
theorem se_Fi_becomeLink : (.selects "CapabilityDomains$Field" ⟨"CapabilityDomains$Field", "becomeLink", "(I)V"⟩ ⟨"CapabilityDomains$Field", "becomeLink", "(I)V"⟩ : Cond) ∈ lw_tbl ∧ cd_gw (.selects "CapabilityDomains$Field" ⟨"CapabilityDomains$Field", "becomeLink", "(I)V"⟩ ⟨"CapabilityDomains$Field", "becomeLink", "(I)V"⟩) = true := cd_tw 406 (by decide +kernel) (by decide +kernel)
theorem cw_Fi_becomeLink : (.code ⟨"CapabilityDomains$Field", "becomeLink", "(I)V"⟩ prog_5_method_5_code 2 none : Cond) ∈ lw_tbl ∧ cd_gw (.code ⟨"CapabilityDomains$Field", "becomeLink", "(I)V"⟩ prog_5_method_5_code 2 none) = true := cd_tw 407 (by decide +kernel) (by decide +kernel)
theorem ml_La_96 : (.methodLink "CapabilityDomainsLaw" 96 ⟨"CapabilityDomainsLaw", "hold", "(LCapabilityDomains;IIII[J)I"⟩ : Cond) ∈ lw_tbl ∧ cd_gw (.methodLink "CapabilityDomainsLaw" 96 ⟨"CapabilityDomainsLaw", "hold", "(LCapabilityDomains;IIII[J)I"⟩) = true := cd_tw 408 (by decide +kernel) (by decide +kernel)
theorem st_La_hold : (.static ⟨"CapabilityDomainsLaw", "hold", "(LCapabilityDomains;IIII[J)I"⟩ : Cond) ∈ lw_tbl ∧ cd_gw (.static ⟨"CapabilityDomainsLaw", "hold", "(LCapabilityDomains;IIII[J)I"⟩) = true := cd_tw 409 (by decide +kernel) (by decide +kernel)
theorem cw_La_hold : (.codeWith ⟨"CapabilityDomainsLaw", "hold", "(LCapabilityDomains;IIII[J)I"⟩ method_7_code 7 (some .int) [(0, 14, 17, 19), (0, 14, 21, 13), (0, 14, 25, 27), (0, 14, 29, 29)] : Cond) ∈ lw_tbl ∧ cd_gw (.codeWith ⟨"CapabilityDomainsLaw", "hold", "(LCapabilityDomains;IIII[J)I"⟩ method_7_code 7 (some .int) [(0, 14, 17, 19), (0, 14, 21, 13), (0, 14, 25, 27), (0, 14, 29, 29)]) = true := cd_tw 410 (by decide +kernel) (by decide +kernel)
theorem ml_La_34 : (.methodLink "CapabilityDomainsLaw" 34 ⟨"CapabilityDomains", "hold", "(IIII)I"⟩ : Cond) ∈ lw_tbl ∧ cd_gw (.methodLink "CapabilityDomainsLaw" 34 ⟨"CapabilityDomains", "hold", "(IIII)I"⟩) = true := cd_tw 411 (by decide +kernel) (by decide +kernel)
theorem im_Cd_hold : (.instanceMethod ⟨"CapabilityDomains", "hold", "(IIII)I"⟩ : Cond) ∈ lw_tbl ∧ cd_gw (.instanceMethod ⟨"CapabilityDomains", "hold", "(IIII)I"⟩) = true := cd_tw 412 (by decide +kernel) (by decide +kernel)
theorem se_Cd_hold : (.selects "CapabilityDomains" ⟨"CapabilityDomains", "hold", "(IIII)I"⟩ ⟨"CapabilityDomains", "hold", "(IIII)I"⟩ : Cond) ∈ lw_tbl ∧ cd_gw (.selects "CapabilityDomains" ⟨"CapabilityDomains", "hold", "(IIII)I"⟩ ⟨"CapabilityDomains", "hold", "(IIII)I"⟩) = true := cd_tw 413 (by decide +kernel) (by decide +kernel)
theorem cw_Cd_hold : (.code ⟨"CapabilityDomains", "hold", "(IIII)I"⟩ prog_1_method_6_code 7 (some .int) : Cond) ∈ lw_tbl ∧ cd_gw (.code ⟨"CapabilityDomains", "hold", "(IIII)I"⟩ prog_1_method_6_code 7 (some .int)) = true := cd_tw 414 (by decide +kernel) (by decide +kernel)
theorem ml_Cd_89 : (.methodLink "CapabilityDomains" 89 ⟨"CapabilityDomains", "capabilityIn", "(LCapabilityDomains$Domain;I)LCapabilityDomains$Capability;"⟩ : Cond) ∈ lw_tbl ∧ cd_gw (.methodLink "CapabilityDomains" 89 ⟨"CapabilityDomains", "capabilityIn", "(LCapabilityDomains$Domain;I)LCapabilityDomains$Capability;"⟩) = true := cd_tw 416 (by decide +kernel) (by decide +kernel)
theorem st_Cd_capabilityIn : (.static ⟨"CapabilityDomains", "capabilityIn", "(LCapabilityDomains$Domain;I)LCapabilityDomains$Capability;"⟩ : Cond) ∈ lw_tbl ∧ cd_gw (.static ⟨"CapabilityDomains", "capabilityIn", "(LCapabilityDomains$Domain;I)LCapabilityDomains$Capability;"⟩) = true := cd_tw 417 (by decide +kernel) (by decide +kernel)
theorem cw_Cd_capabilityIn : (.code ⟨"CapabilityDomains", "capabilityIn", "(LCapabilityDomains$Domain;I)LCapabilityDomains$Capability;"⟩ prog_1_method_32_code 3 (some (.object "CapabilityDomains$Capability")) : Cond) ∈ lw_tbl ∧ cd_gw (.code ⟨"CapabilityDomains", "capabilityIn", "(LCapabilityDomains$Domain;I)LCapabilityDomains$Capability;"⟩ prog_1_method_32_code 3 (some (.object "CapabilityDomains$Capability"))) = true := cd_tw 418 (by decide +kernel) (by decide +kernel)
theorem ml_Cd_93 : (.methodLink "CapabilityDomains" 93 ⟨"CapabilityDomains$Field", "becomeCapability", "(LCapabilityDomains$Capability;)V"⟩ : Cond) ∈ lw_tbl ∧ cd_gw (.methodLink "CapabilityDomains" 93 ⟨"CapabilityDomains$Field", "becomeCapability", "(LCapabilityDomains$Capability;)V"⟩) = true := cd_tw 420 (by decide +kernel) (by decide +kernel)
theorem im_Fi_becomeCapability : (.instanceMethod ⟨"CapabilityDomains$Field", "becomeCapability", "(LCapabilityDomains$Capability;)V"⟩ : Cond) ∈ lw_tbl ∧ cd_gw (.instanceMethod ⟨"CapabilityDomains$Field", "becomeCapability", "(LCapabilityDomains$Capability;)V"⟩) = true := cd_tw 421 (by decide +kernel) (by decide +kernel)
theorem se_Fi_becomeCapability : (.selects "CapabilityDomains$Field" ⟨"CapabilityDomains$Field", "becomeCapability", "(LCapabilityDomains$Capability;)V"⟩ ⟨"CapabilityDomains$Field", "becomeCapability", "(LCapabilityDomains$Capability;)V"⟩ : Cond) ∈ lw_tbl ∧ cd_gw (.selects "CapabilityDomains$Field" ⟨"CapabilityDomains$Field", "becomeCapability", "(LCapabilityDomains$Capability;)V"⟩ ⟨"CapabilityDomains$Field", "becomeCapability", "(LCapabilityDomains$Capability;)V"⟩) = true := cd_tw 422 (by decide +kernel) (by decide +kernel)
theorem cw_Fi_becomeCapability : (.code ⟨"CapabilityDomains$Field", "becomeCapability", "(LCapabilityDomains$Capability;)V"⟩ prog_5_method_6_code 2 none : Cond) ∈ lw_tbl ∧ cd_gw (.code ⟨"CapabilityDomains$Field", "becomeCapability", "(LCapabilityDomains$Capability;)V"⟩ prog_5_method_6_code 2 none) = true := cd_tw 423 (by decide +kernel) (by decide +kernel)
theorem ml_La_99 : (.methodLink "CapabilityDomainsLaw" 99 ⟨"CapabilityDomainsLaw", "export", "(LCapabilityDomains;IIIII[J)I"⟩ : Cond) ∈ lw_tbl ∧ cd_gw (.methodLink "CapabilityDomainsLaw" 99 ⟨"CapabilityDomainsLaw", "export", "(LCapabilityDomains;IIIII[J)I"⟩) = true := cd_tw 424 (by decide +kernel) (by decide +kernel)
theorem st_La_export : (.static ⟨"CapabilityDomainsLaw", "export", "(LCapabilityDomains;IIIII[J)I"⟩ : Cond) ∈ lw_tbl ∧ cd_gw (.static ⟨"CapabilityDomainsLaw", "export", "(LCapabilityDomains;IIIII[J)I"⟩) = true := cd_tw 425 (by decide +kernel) (by decide +kernel)
theorem cw_La_export : (.codeWith ⟨"CapabilityDomainsLaw", "export", "(LCapabilityDomains;IIIII[J)I"⟩ method_8_code 8 (some .int) [(0, 16, 19, 19), (0, 16, 23, 13), (0, 16, 27, 27), (0, 16, 31, 21)] : Cond) ∈ lw_tbl ∧ cd_gw (.codeWith ⟨"CapabilityDomainsLaw", "export", "(LCapabilityDomains;IIIII[J)I"⟩ method_8_code 8 (some .int) [(0, 16, 19, 19), (0, 16, 23, 13), (0, 16, 27, 27), (0, 16, 31, 21)]) = true := cd_tw 426 (by decide +kernel) (by decide +kernel)
theorem ml_La_37 : (.methodLink "CapabilityDomainsLaw" 37 ⟨"CapabilityDomains", "export", "(IIIII)I"⟩ : Cond) ∈ lw_tbl ∧ cd_gw (.methodLink "CapabilityDomainsLaw" 37 ⟨"CapabilityDomains", "export", "(IIIII)I"⟩) = true := cd_tw 427 (by decide +kernel) (by decide +kernel)
theorem im_Cd_export : (.instanceMethod ⟨"CapabilityDomains", "export", "(IIIII)I"⟩ : Cond) ∈ lw_tbl ∧ cd_gw (.instanceMethod ⟨"CapabilityDomains", "export", "(IIIII)I"⟩) = true := cd_tw 428 (by decide +kernel) (by decide +kernel)
theorem se_Cd_export : (.selects "CapabilityDomains" ⟨"CapabilityDomains", "export", "(IIIII)I"⟩ ⟨"CapabilityDomains", "export", "(IIIII)I"⟩ : Cond) ∈ lw_tbl ∧ cd_gw (.selects "CapabilityDomains" ⟨"CapabilityDomains", "export", "(IIIII)I"⟩ ⟨"CapabilityDomains", "export", "(IIIII)I"⟩) = true := cd_tw 429 (by decide +kernel) (by decide +kernel)
theorem cw_Cd_export : (.code ⟨"CapabilityDomains", "export", "(IIIII)I"⟩ prog_1_method_7_code 7 (some .int) : Cond) ∈ lw_tbl ∧ cd_gw (.code ⟨"CapabilityDomains", "export", "(IIIII)I"⟩ prog_1_method_7_code 7 (some .int)) = true := cd_tw 430 (by decide +kernel) (by decide +kernel)
theorem ml_Cd_97 : (.methodLink "CapabilityDomains" 97 ⟨"CapabilityDomains", "requireSlot", "(II)V"⟩ : Cond) ∈ lw_tbl ∧ cd_gw (.methodLink "CapabilityDomains" 97 ⟨"CapabilityDomains", "requireSlot", "(II)V"⟩) = true := cd_tw 431 (by decide +kernel) (by decide +kernel)
theorem im_Cd_requireSlot : (.instanceMethod ⟨"CapabilityDomains", "requireSlot", "(II)V"⟩ : Cond) ∈ lw_tbl ∧ cd_gw (.instanceMethod ⟨"CapabilityDomains", "requireSlot", "(II)V"⟩) = true := cd_tw 433 (by decide +kernel) (by decide +kernel)
theorem cw_Cd_requireSlot : (.code ⟨"CapabilityDomains", "requireSlot", "(II)V"⟩ prog_1_method_27_code 3 none : Cond) ∈ lw_tbl ∧ cd_gw (.code ⟨"CapabilityDomains", "requireSlot", "(II)V"⟩ prog_1_method_27_code 3 none) = true := cd_tw 434 (by decide +kernel) (by decide +kernel)
theorem ml_Cd_101 : (.methodLink "CapabilityDomains" 101 ⟨"CapabilityDomains", "requireGrant", "(II)V"⟩ : Cond) ∈ lw_tbl ∧ cd_gw (.methodLink "CapabilityDomains" 101 ⟨"CapabilityDomains", "requireGrant", "(II)V"⟩) = true := cd_tw 436 (by decide +kernel) (by decide +kernel)
theorem st_Cd_requireGrant : (.static ⟨"CapabilityDomains", "requireGrant", "(II)V"⟩ : Cond) ∈ lw_tbl ∧ cd_gw (.static ⟨"CapabilityDomains", "requireGrant", "(II)V"⟩) = true := cd_tw 437 (by decide +kernel) (by decide +kernel)
theorem cw_Cd_requireGrant : (.code ⟨"CapabilityDomains", "requireGrant", "(II)V"⟩ prog_1_method_28_code 2 none : Cond) ∈ lw_tbl ∧ cd_gw (.code ⟨"CapabilityDomains", "requireGrant", "(II)V"⟩ prog_1_method_28_code 2 none) = true := cd_tw 438 (by decide +kernel) (by decide +kernel)
theorem ml_Cd_106 : (.methodLink "CapabilityDomains" 106 ⟨"CapabilityDomains", "requireCapabilityLeft", "()V"⟩ : Cond) ∈ lw_tbl ∧ cd_gw (.methodLink "CapabilityDomains" 106 ⟨"CapabilityDomains", "requireCapabilityLeft", "()V"⟩) = true := cd_tw 440 (by decide +kernel) (by decide +kernel)
theorem im_Cd_requireCapabilityLeft : (.instanceMethod ⟨"CapabilityDomains", "requireCapabilityLeft", "()V"⟩ : Cond) ∈ lw_tbl ∧ cd_gw (.instanceMethod ⟨"CapabilityDomains", "requireCapabilityLeft", "()V"⟩) = true := cd_tw 442 (by decide +kernel) (by decide +kernel)
theorem cw_Cd_requireCapabilityLeft : (.code ⟨"CapabilityDomains", "requireCapabilityLeft", "()V"⟩ prog_1_method_29_code 1 none : Cond) ∈ lw_tbl ∧ cd_gw (.code ⟨"CapabilityDomains", "requireCapabilityLeft", "()V"⟩ prog_1_method_29_code 1 none) = true := cd_tw 443 (by decide +kernel) (by decide +kernel)
theorem ia_Ca : (.instantiable "CapabilityDomains$Capability" 7 : Cond) ∈ lw_tbl ∧ cd_gw (.instantiable "CapabilityDomains$Capability" 7) = true := cd_tw 445 (by decide +kernel) (by decide +kernel)
theorem ml_Cd_109 : (.methodLink "CapabilityDomains" 109 ⟨"CapabilityDomains$Capability", "<init>", "(LCapabilityDomains$Domain;ILCapabilityDomains$Capability;II)V"⟩ : Cond) ∈ lw_tbl ∧ cd_gw (.methodLink "CapabilityDomains" 109 ⟨"CapabilityDomains$Capability", "<init>", "(LCapabilityDomains$Domain;ILCapabilityDomains$Capability;II)V"⟩) = true := cd_tw 446 (by decide +kernel) (by decide +kernel)
theorem im_Ca_init : (.instanceMethod ⟨"CapabilityDomains$Capability", "<init>", "(LCapabilityDomains$Domain;ILCapabilityDomains$Capability;II)V"⟩ : Cond) ∈ lw_tbl ∧ cd_gw (.instanceMethod ⟨"CapabilityDomains$Capability", "<init>", "(LCapabilityDomains$Domain;ILCapabilityDomains$Capability;II)V"⟩) = true := cd_tw 447 (by decide +kernel) (by decide +kernel)
theorem cw_Ca_init : (.code ⟨"CapabilityDomains$Capability", "<init>", "(LCapabilityDomains$Domain;ILCapabilityDomains$Capability;II)V"⟩ prog_2_method_1_code 6 none : Cond) ∈ lw_tbl ∧ cd_gw (.code ⟨"CapabilityDomains$Capability", "<init>", "(LCapabilityDomains$Domain;ILCapabilityDomains$Capability;II)V"⟩ prog_2_method_1_code 6 none) = true := cd_tw 448 (by decide +kernel) (by decide +kernel)
theorem ml_Ca_1 : (.methodLink "CapabilityDomains$Capability" 1 ⟨"java/lang/Object", "<init>", "()V"⟩ : Cond) ∈ lw_tbl ∧ cd_gw (.methodLink "CapabilityDomains$Capability" 1 ⟨"java/lang/Object", "<init>", "()V"⟩) = true := cd_tw 449 (by decide +kernel) (by decide +kernel)
theorem lk_Ca_7 : (.fieldLink "CapabilityDomains$Capability" 7 "CapabilityDomains$Capability" "home" "LCapabilityDomains$Domain;" : Cond) ∈ lw_tbl ∧ cd_gw (.fieldLink "CapabilityDomains$Capability" 7 "CapabilityDomains$Capability" "home" "LCapabilityDomains$Domain;") = true := cd_tw 450 (by decide +kernel) (by decide +kernel)
theorem lk_Cd_130 : (.fieldLink "CapabilityDomains" 130 "CapabilityDomains$Capability" "home" "LCapabilityDomains$Domain;" : Cond) ∈ lw_tbl ∧ cd_gw (.fieldLink "CapabilityDomains" 130 "CapabilityDomains$Capability" "home" "LCapabilityDomains$Domain;") = true := cd_tw 451 (by decide +kernel) (by decide +kernel)
theorem lk_Ca_13 : (.fieldLink "CapabilityDomains$Capability" 13 "CapabilityDomains$Capability" "target" "I" : Cond) ∈ lw_tbl ∧ cd_gw (.fieldLink "CapabilityDomains$Capability" 13 "CapabilityDomains$Capability" "target" "I") = true := cd_tw 452 (by decide +kernel) (by decide +kernel)
theorem lk_Cd_134 : (.fieldLink "CapabilityDomains" 134 "CapabilityDomains$Capability" "target" "I" : Cond) ∈ lw_tbl ∧ cd_gw (.fieldLink "CapabilityDomains" 134 "CapabilityDomains$Capability" "target" "I") = true := cd_tw 453 (by decide +kernel) (by decide +kernel)
theorem lk_Ca_17 : (.fieldLink "CapabilityDomains$Capability" 17 "CapabilityDomains$Capability" "parent" "LCapabilityDomains$Capability;" : Cond) ∈ lw_tbl ∧ cd_gw (.fieldLink "CapabilityDomains$Capability" 17 "CapabilityDomains$Capability" "parent" "LCapabilityDomains$Capability;") = true := cd_tw 454 (by decide +kernel) (by decide +kernel)
theorem lk_Ca_21 : (.fieldLink "CapabilityDomains$Capability" 21 "CapabilityDomains$Capability" "rights" "I" : Cond) ∈ lw_tbl ∧ cd_gw (.fieldLink "CapabilityDomains$Capability" 21 "CapabilityDomains$Capability" "rights" "I") = true := cd_tw 455 (by decide +kernel) (by decide +kernel)
theorem lk_Ca_24 : (.fieldLink "CapabilityDomains$Capability" 24 "CapabilityDomains$Capability" "uses" "I" : Cond) ∈ lw_tbl ∧ cd_gw (.fieldLink "CapabilityDomains$Capability" 24 "CapabilityDomains$Capability" "uses" "I") = true := cd_tw 456 (by decide +kernel) (by decide +kernel)
theorem lk_Cd_166 : (.fieldLink "CapabilityDomains" 166 "CapabilityDomains$Capability" "uses" "I" : Cond) ∈ lw_tbl ∧ cd_gw (.fieldLink "CapabilityDomains" 166 "CapabilityDomains$Capability" "uses" "I") = true := cd_tw 457 (by decide +kernel) (by decide +kernel)
theorem lk_Ca_27 : (.fieldLink "CapabilityDomains$Capability" 27 "CapabilityDomains$Capability" "revoked" "Z" : Cond) ∈ lw_tbl ∧ cd_gw (.fieldLink "CapabilityDomains$Capability" 27 "CapabilityDomains$Capability" "revoked" "Z") = true := cd_tw 458 (by decide +kernel) (by decide +kernel)
theorem lk_Cd_143 : (.fieldLink "CapabilityDomains" 143 "CapabilityDomains$Capability" "revoked" "Z" : Cond) ∈ lw_tbl ∧ cd_gw (.fieldLink "CapabilityDomains" 143 "CapabilityDomains$Capability" "revoked" "Z") = true := cd_tw 459 (by decide +kernel) (by decide +kernel)
theorem lk_Ca_40 : (.fieldLink "CapabilityDomains$Capability" 40 "CapabilityDomains$Capability" "dead" "Z" : Cond) ∈ lw_tbl ∧ cd_gw (.fieldLink "CapabilityDomains$Capability" 40 "CapabilityDomains$Capability" "dead" "Z") = true := cd_tw 460 (by decide +kernel) (by decide +kernel)
theorem lk_Cd_116 : (.fieldLink "CapabilityDomains" 116 "CapabilityDomains$Capability" "dead" "Z" : Cond) ∈ lw_tbl ∧ cd_gw (.fieldLink "CapabilityDomains" 116 "CapabilityDomains$Capability" "dead" "Z") = true := cd_tw 461 (by decide +kernel) (by decide +kernel)
theorem ml_Cd_112 : (.methodLink "CapabilityDomains" 112 ⟨"CapabilityDomains", "putNew", "(LCapabilityDomains$Capability;LCapabilityDomains$Domain;I)I"⟩ : Cond) ∈ lw_tbl ∧ cd_gw (.methodLink "CapabilityDomains" 112 ⟨"CapabilityDomains", "putNew", "(LCapabilityDomains$Capability;LCapabilityDomains$Domain;I)I"⟩) = true := cd_tw 477 (by decide +kernel) (by decide +kernel)
theorem im_Cd_putNew : (.instanceMethod ⟨"CapabilityDomains", "putNew", "(LCapabilityDomains$Capability;LCapabilityDomains$Domain;I)I"⟩ : Cond) ∈ lw_tbl ∧ cd_gw (.instanceMethod ⟨"CapabilityDomains", "putNew", "(LCapabilityDomains$Capability;LCapabilityDomains$Domain;I)I"⟩) = true := cd_tw 479 (by decide +kernel) (by decide +kernel)
theorem cw_Cd_putNew : (.code ⟨"CapabilityDomains", "putNew", "(LCapabilityDomains$Capability;LCapabilityDomains$Domain;I)I"⟩ prog_1_method_35_code 4 (some .int) : Cond) ∈ lw_tbl ∧ cd_gw (.code ⟨"CapabilityDomains", "putNew", "(LCapabilityDomains$Capability;LCapabilityDomains$Domain;I)I"⟩ prog_1_method_35_code 4 (some .int)) = true := cd_tw 480 (by decide +kernel) (by decide +kernel)
theorem ml_La_103 : (.methodLink "CapabilityDomainsLaw" 103 ⟨"CapabilityDomainsLaw", "narrow", "(LCapabilityDomains;IIII[J)I"⟩ : Cond) ∈ lw_tbl ∧ cd_gw (.methodLink "CapabilityDomainsLaw" 103 ⟨"CapabilityDomainsLaw", "narrow", "(LCapabilityDomains;IIII[J)I"⟩) = true := cd_tw 481 (by decide +kernel) (by decide +kernel)
theorem st_La_narrow : (.static ⟨"CapabilityDomainsLaw", "narrow", "(LCapabilityDomains;IIII[J)I"⟩ : Cond) ∈ lw_tbl ∧ cd_gw (.static ⟨"CapabilityDomainsLaw", "narrow", "(LCapabilityDomains;IIII[J)I"⟩) = true := cd_tw 482 (by decide +kernel) (by decide +kernel)
theorem cw_La_narrow : (.codeWith ⟨"CapabilityDomainsLaw", "narrow", "(LCapabilityDomains;IIII[J)I"⟩ method_9_code 7 (some .int) [(0, 14, 17, 19), (0, 14, 21, 13), (0, 14, 25, 27), (0, 14, 29, 44), (0, 14, 33, 21)] : Cond) ∈ lw_tbl ∧ cd_gw (.codeWith ⟨"CapabilityDomainsLaw", "narrow", "(LCapabilityDomains;IIII[J)I"⟩ method_9_code 7 (some .int) [(0, 14, 17, 19), (0, 14, 21, 13), (0, 14, 25, 27), (0, 14, 29, 44), (0, 14, 33, 21)]) = true := cd_tw 483 (by decide +kernel) (by decide +kernel)
theorem kl_La_44 : (.classLink "CapabilityDomainsLaw" 44 "java/lang/UnsupportedOperationException" : Cond) ∈ lw_tbl ∧ cd_gw (.classLink "CapabilityDomainsLaw" 44 "java/lang/UnsupportedOperationException") = true := cd_tw 484 (by decide +kernel) (by decide +kernel)
theorem ml_La_41 : (.methodLink "CapabilityDomainsLaw" 41 ⟨"CapabilityDomains", "narrow", "(IIII)I"⟩ : Cond) ∈ lw_tbl ∧ cd_gw (.methodLink "CapabilityDomainsLaw" 41 ⟨"CapabilityDomains", "narrow", "(IIII)I"⟩) = true := cd_tw 485 (by decide +kernel) (by decide +kernel)
theorem im_Cd_narrow : (.instanceMethod ⟨"CapabilityDomains", "narrow", "(IIII)I"⟩ : Cond) ∈ lw_tbl ∧ cd_gw (.instanceMethod ⟨"CapabilityDomains", "narrow", "(IIII)I"⟩) = true := cd_tw 486 (by decide +kernel) (by decide +kernel)
theorem se_Cd_narrow : (.selects "CapabilityDomains" ⟨"CapabilityDomains", "narrow", "(IIII)I"⟩ ⟨"CapabilityDomains", "narrow", "(IIII)I"⟩ : Cond) ∈ lw_tbl ∧ cd_gw (.selects "CapabilityDomains" ⟨"CapabilityDomains", "narrow", "(IIII)I"⟩ ⟨"CapabilityDomains", "narrow", "(IIII)I"⟩) = true := cd_tw 487 (by decide +kernel) (by decide +kernel)
theorem cw_Cd_narrow : (.code ⟨"CapabilityDomains", "narrow", "(IIII)I"⟩ prog_1_method_8_code 7 (some .int) : Cond) ∈ lw_tbl ∧ cd_gw (.code ⟨"CapabilityDomains", "narrow", "(IIII)I"⟩ prog_1_method_8_code 7 (some .int)) = true := cd_tw 488 (by decide +kernel) (by decide +kernel)
theorem ml_Cd_122 : (.methodLink "CapabilityDomains" 122 ⟨"CapabilityDomains$Capability", "allows", "(I)Z"⟩ : Cond) ∈ lw_tbl ∧ cd_gw (.methodLink "CapabilityDomains" 122 ⟨"CapabilityDomains$Capability", "allows", "(I)Z"⟩) = true := cd_tw 490 (by decide +kernel) (by decide +kernel)
theorem im_Ca_allows : (.instanceMethod ⟨"CapabilityDomains$Capability", "allows", "(I)Z"⟩ : Cond) ∈ lw_tbl ∧ cd_gw (.instanceMethod ⟨"CapabilityDomains$Capability", "allows", "(I)Z"⟩) = true := cd_tw 491 (by decide +kernel) (by decide +kernel)
theorem se_Ca_allows : (.selects "CapabilityDomains$Capability" ⟨"CapabilityDomains$Capability", "allows", "(I)Z"⟩ ⟨"CapabilityDomains$Capability", "allows", "(I)Z"⟩ : Cond) ∈ lw_tbl ∧ cd_gw (.selects "CapabilityDomains$Capability" ⟨"CapabilityDomains$Capability", "allows", "(I)Z"⟩ ⟨"CapabilityDomains$Capability", "allows", "(I)Z"⟩) = true := cd_tw 492 (by decide +kernel) (by decide +kernel)
theorem cw_Ca_allows : (.code ⟨"CapabilityDomains$Capability", "allows", "(I)Z"⟩ prog_2_method_2_code 2 (some .boolean) : Cond) ∈ lw_tbl ∧ cd_gw (.code ⟨"CapabilityDomains$Capability", "allows", "(I)Z"⟩ prog_2_method_2_code 2 (some .boolean)) = true := cd_tw 493 (by decide +kernel) (by decide +kernel)
theorem kl_Cd_125 : (.classLink "CapabilityDomains" 125 "java/lang/UnsupportedOperationException" : Cond) ∈ lw_tbl ∧ cd_gw (.classLink "CapabilityDomains" 125 "java/lang/UnsupportedOperationException") = true := cd_tw 494 (by decide +kernel) (by decide +kernel)
theorem ia_UnsupportedOperationException : (.instantiable "java/lang/UnsupportedOperationException" 6 : Cond) ∈ lw_tbl ∧ cd_gw (.instantiable "java/lang/UnsupportedOperationException" 6) = true := cd_tw 495 (by decide +kernel) (by decide +kernel)
theorem ca_UnsupportedOperationException : (.castable "java/lang/UnsupportedOperationException" "java/lang/UnsupportedOperationException" : Cond) ∈ lw_tbl ∧ cd_gw (.castable "java/lang/UnsupportedOperationException" "java/lang/UnsupportedOperationException") = true := cd_tw 496 (by decide +kernel) (by decide +kernel)
theorem ml_Cd_129 : (.methodLink "CapabilityDomains" 129 ⟨"java/lang/UnsupportedOperationException", "<init>", "(Ljava/lang/String;)V"⟩ : Cond) ∈ lw_tbl ∧ cd_gw (.methodLink "CapabilityDomains" 129 ⟨"java/lang/UnsupportedOperationException", "<init>", "(Ljava/lang/String;)V"⟩) = true := cd_tw 504 (by decide +kernel) (by decide +kernel)
theorem ml_UnsupportedOperationException_7 : (.methodLink "java/lang/UnsupportedOperationException" 7 ⟨"java/lang/RuntimeException", "<init>", "(Ljava/lang/String;)V"⟩ : Cond) ∈ lw_tbl ∧ cd_gw (.methodLink "java/lang/UnsupportedOperationException" 7 ⟨"java/lang/RuntimeException", "<init>", "(Ljava/lang/String;)V"⟩) = true := cd_tw 507 (by decide +kernel) (by decide +kernel)
theorem ml_La_106 : (.methodLink "CapabilityDomainsLaw" 106 ⟨"CapabilityDomainsLaw", "give", "(LCapabilityDomains;IIII[J)I"⟩ : Cond) ∈ lw_tbl ∧ cd_gw (.methodLink "CapabilityDomainsLaw" 106 ⟨"CapabilityDomainsLaw", "give", "(LCapabilityDomains;IIII[J)I"⟩) = true := cd_tw 510 (by decide +kernel) (by decide +kernel)
theorem st_La_give : (.static ⟨"CapabilityDomainsLaw", "give", "(LCapabilityDomains;IIII[J)I"⟩ : Cond) ∈ lw_tbl ∧ cd_gw (.static ⟨"CapabilityDomainsLaw", "give", "(LCapabilityDomains;IIII[J)I"⟩) = true := cd_tw 511 (by decide +kernel) (by decide +kernel)
theorem cw_La_give : (.codeWith ⟨"CapabilityDomainsLaw", "give", "(LCapabilityDomains;IIII[J)I"⟩ method_10_code 7 (some .int) [(0, 14, 17, 19), (0, 14, 21, 13), (0, 14, 25, 27)] : Cond) ∈ lw_tbl ∧ cd_gw (.codeWith ⟨"CapabilityDomainsLaw", "give", "(LCapabilityDomains;IIII[J)I"⟩ method_10_code 7 (some .int) [(0, 14, 17, 19), (0, 14, 21, 13), (0, 14, 25, 27)]) = true := cd_tw 512 (by decide +kernel) (by decide +kernel)
theorem ml_La_46 : (.methodLink "CapabilityDomainsLaw" 46 ⟨"CapabilityDomains", "give", "(IIII)I"⟩ : Cond) ∈ lw_tbl ∧ cd_gw (.methodLink "CapabilityDomainsLaw" 46 ⟨"CapabilityDomains", "give", "(IIII)I"⟩) = true := cd_tw 513 (by decide +kernel) (by decide +kernel)
theorem im_Cd_give : (.instanceMethod ⟨"CapabilityDomains", "give", "(IIII)I"⟩ : Cond) ∈ lw_tbl ∧ cd_gw (.instanceMethod ⟨"CapabilityDomains", "give", "(IIII)I"⟩) = true := cd_tw 514 (by decide +kernel) (by decide +kernel)
theorem se_Cd_give : (.selects "CapabilityDomains" ⟨"CapabilityDomains", "give", "(IIII)I"⟩ ⟨"CapabilityDomains", "give", "(IIII)I"⟩ : Cond) ∈ lw_tbl ∧ cd_gw (.selects "CapabilityDomains" ⟨"CapabilityDomains", "give", "(IIII)I"⟩ ⟨"CapabilityDomains", "give", "(IIII)I"⟩) = true := cd_tw 515 (by decide +kernel) (by decide +kernel)
theorem cw_Cd_give : (.code ⟨"CapabilityDomains", "give", "(IIII)I"⟩ prog_1_method_9_code 7 (some .int) : Cond) ∈ lw_tbl ∧ cd_gw (.code ⟨"CapabilityDomains", "give", "(IIII)I"⟩ prog_1_method_9_code 7 (some .int)) = true := cd_tw 516 (by decide +kernel) (by decide +kernel)
theorem ml_Cd_137 : (.methodLink "CapabilityDomains" 137 ⟨"CapabilityDomains$Domain", "replaceSlot", "(ILCapabilityDomains$Capability;)I"⟩ : Cond) ∈ lw_tbl ∧ cd_gw (.methodLink "CapabilityDomains" 137 ⟨"CapabilityDomains$Domain", "replaceSlot", "(ILCapabilityDomains$Capability;)I"⟩) = true := cd_tw 517 (by decide +kernel) (by decide +kernel)
theorem im_Do_replaceSlot : (.instanceMethod ⟨"CapabilityDomains$Domain", "replaceSlot", "(ILCapabilityDomains$Capability;)I"⟩ : Cond) ∈ lw_tbl ∧ cd_gw (.instanceMethod ⟨"CapabilityDomains$Domain", "replaceSlot", "(ILCapabilityDomains$Capability;)I"⟩) = true := cd_tw 518 (by decide +kernel) (by decide +kernel)
theorem se_Do_replaceSlot : (.selects "CapabilityDomains$Domain" ⟨"CapabilityDomains$Domain", "replaceSlot", "(ILCapabilityDomains$Capability;)I"⟩ ⟨"CapabilityDomains$Domain", "replaceSlot", "(ILCapabilityDomains$Capability;)I"⟩ : Cond) ∈ lw_tbl ∧ cd_gw (.selects "CapabilityDomains$Domain" ⟨"CapabilityDomains$Domain", "replaceSlot", "(ILCapabilityDomains$Capability;)I"⟩ ⟨"CapabilityDomains$Domain", "replaceSlot", "(ILCapabilityDomains$Capability;)I"⟩) = true := cd_tw 519 (by decide +kernel) (by decide +kernel)
theorem cw_Do_replaceSlot : (.code ⟨"CapabilityDomains$Domain", "replaceSlot", "(ILCapabilityDomains$Capability;)I"⟩ prog_3_method_6_code 4 (some .int) : Cond) ∈ lw_tbl ∧ cd_gw (.code ⟨"CapabilityDomains$Domain", "replaceSlot", "(ILCapabilityDomains$Capability;)I"⟩ prog_3_method_6_code 4 (some .int)) = true := cd_tw 520 (by decide +kernel) (by decide +kernel)
theorem ml_La_109 : (.methodLink "CapabilityDomainsLaw" 109 ⟨"CapabilityDomainsLaw", "revoke", "(LCapabilityDomains;II[J)I"⟩ : Cond) ∈ lw_tbl ∧ cd_gw (.methodLink "CapabilityDomainsLaw" 109 ⟨"CapabilityDomainsLaw", "revoke", "(LCapabilityDomains;II[J)I"⟩) = true := cd_tw 521 (by decide +kernel) (by decide +kernel)
theorem st_La_revoke : (.static ⟨"CapabilityDomainsLaw", "revoke", "(LCapabilityDomains;II[J)I"⟩ : Cond) ∈ lw_tbl ∧ cd_gw (.static ⟨"CapabilityDomainsLaw", "revoke", "(LCapabilityDomains;II[J)I"⟩) = true := cd_tw 522 (by decide +kernel) (by decide +kernel)
theorem cw_La_revoke : (.codeWith ⟨"CapabilityDomainsLaw", "revoke", "(LCapabilityDomains;II[J)I"⟩ method_11_code 5 (some .int) [(0, 10, 13, 19), (0, 10, 17, 13), (0, 10, 21, 27), (0, 10, 25, 44)] : Cond) ∈ lw_tbl ∧ cd_gw (.codeWith ⟨"CapabilityDomainsLaw", "revoke", "(LCapabilityDomains;II[J)I"⟩ method_11_code 5 (some .int) [(0, 10, 13, 19), (0, 10, 17, 13), (0, 10, 21, 27), (0, 10, 25, 44)]) = true := cd_tw 523 (by decide +kernel) (by decide +kernel)
theorem ml_La_49 : (.methodLink "CapabilityDomainsLaw" 49 ⟨"CapabilityDomains", "revoke", "(II)I"⟩ : Cond) ∈ lw_tbl ∧ cd_gw (.methodLink "CapabilityDomainsLaw" 49 ⟨"CapabilityDomains", "revoke", "(II)I"⟩) = true := cd_tw 524 (by decide +kernel) (by decide +kernel)
theorem im_Cd_revoke : (.instanceMethod ⟨"CapabilityDomains", "revoke", "(II)I"⟩ : Cond) ∈ lw_tbl ∧ cd_gw (.instanceMethod ⟨"CapabilityDomains", "revoke", "(II)I"⟩) = true := cd_tw 525 (by decide +kernel) (by decide +kernel)
theorem se_Cd_revoke : (.selects "CapabilityDomains" ⟨"CapabilityDomains", "revoke", "(II)I"⟩ ⟨"CapabilityDomains", "revoke", "(II)I"⟩ : Cond) ∈ lw_tbl ∧ cd_gw (.selects "CapabilityDomains" ⟨"CapabilityDomains", "revoke", "(II)I"⟩ ⟨"CapabilityDomains", "revoke", "(II)I"⟩) = true := cd_tw 526 (by decide +kernel) (by decide +kernel)
theorem cw_Cd_revoke : (.code ⟨"CapabilityDomains", "revoke", "(II)I"⟩ prog_1_method_10_code 5 (some .int) : Cond) ∈ lw_tbl ∧ cd_gw (.code ⟨"CapabilityDomains", "revoke", "(II)I"⟩ prog_1_method_10_code 5 (some .int)) = true := cd_tw 527 (by decide +kernel) (by decide +kernel)
theorem ml_Cd_146 : (.methodLink "CapabilityDomains" 146 ⟨"CapabilityDomains", "spreadDeath", "()I"⟩ : Cond) ∈ lw_tbl ∧ cd_gw (.methodLink "CapabilityDomains" 146 ⟨"CapabilityDomains", "spreadDeath", "()I"⟩) = true := cd_tw 529 (by decide +kernel) (by decide +kernel)
theorem im_Cd_spreadDeath : (.instanceMethod ⟨"CapabilityDomains", "spreadDeath", "()I"⟩ : Cond) ∈ lw_tbl ∧ cd_gw (.instanceMethod ⟨"CapabilityDomains", "spreadDeath", "()I"⟩) = true := cd_tw 531 (by decide +kernel) (by decide +kernel)
theorem cw_Cd_spreadDeath : (.code ⟨"CapabilityDomains", "spreadDeath", "()I"⟩ prog_1_method_36_code 4 (some .int) : Cond) ∈ lw_tbl ∧ cd_gw (.code ⟨"CapabilityDomains", "spreadDeath", "()I"⟩ prog_1_method_36_code 4 (some .int)) = true := cd_tw 532 (by decide +kernel) (by decide +kernel)
theorem ml_Cd_266 : (.methodLink "CapabilityDomains" 266 ⟨"CapabilityDomains$Capability", "mustDie", "()Z"⟩ : Cond) ∈ lw_tbl ∧ cd_gw (.methodLink "CapabilityDomains" 266 ⟨"CapabilityDomains$Capability", "mustDie", "()Z"⟩) = true := cd_tw 533 (by decide +kernel) (by decide +kernel)
theorem im_Ca_mustDie : (.instanceMethod ⟨"CapabilityDomains$Capability", "mustDie", "()Z"⟩ : Cond) ∈ lw_tbl ∧ cd_gw (.instanceMethod ⟨"CapabilityDomains$Capability", "mustDie", "()Z"⟩) = true := cd_tw 534 (by decide +kernel) (by decide +kernel)
theorem se_Ca_mustDie : (.selects "CapabilityDomains$Capability" ⟨"CapabilityDomains$Capability", "mustDie", "()Z"⟩ ⟨"CapabilityDomains$Capability", "mustDie", "()Z"⟩ : Cond) ∈ lw_tbl ∧ cd_gw (.selects "CapabilityDomains$Capability" ⟨"CapabilityDomains$Capability", "mustDie", "()Z"⟩ ⟨"CapabilityDomains$Capability", "mustDie", "()Z"⟩) = true := cd_tw 535 (by decide +kernel) (by decide +kernel)
theorem cw_Ca_mustDie : (.code ⟨"CapabilityDomains$Capability", "mustDie", "()Z"⟩ prog_2_method_3_code 1 (some .boolean) : Cond) ∈ lw_tbl ∧ cd_gw (.code ⟨"CapabilityDomains$Capability", "mustDie", "()Z"⟩ prog_2_method_3_code 1 (some .boolean)) = true := cd_tw 536 (by decide +kernel) (by decide +kernel)
theorem ml_Ca_36 : (.methodLink "CapabilityDomains$Capability" 36 ⟨"CapabilityDomains$Domain", "hasObject", "(I)Z"⟩ : Cond) ∈ lw_tbl ∧ cd_gw (.methodLink "CapabilityDomains$Capability" 36 ⟨"CapabilityDomains$Domain", "hasObject", "(I)Z"⟩) = true := cd_tw 537 (by decide +kernel) (by decide +kernel)
theorem ml_La_113 : (.methodLink "CapabilityDomainsLaw" 113 ⟨"CapabilityDomainsLaw", "read", "(LCapabilityDomains;III[J)I"⟩ : Cond) ∈ lw_tbl ∧ cd_gw (.methodLink "CapabilityDomainsLaw" 113 ⟨"CapabilityDomainsLaw", "read", "(LCapabilityDomains;III[J)I"⟩) = true := cd_tw 538 (by decide +kernel) (by decide +kernel)
theorem st_La_read : (.static ⟨"CapabilityDomainsLaw", "read", "(LCapabilityDomains;III[J)I"⟩ : Cond) ∈ lw_tbl ∧ cd_gw (.static ⟨"CapabilityDomainsLaw", "read", "(LCapabilityDomains;III[J)I"⟩) = true := cd_tw 539 (by decide +kernel) (by decide +kernel)
theorem cw_La_read : (.codeWith ⟨"CapabilityDomainsLaw", "read", "(LCapabilityDomains;III[J)I"⟩ method_12_code 6 (some .int) [(0, 12, 15, 19), (0, 12, 19, 13), (0, 12, 23, 27), (0, 12, 27, 44), (0, 12, 31, 29), (0, 12, 35, 21)] : Cond) ∈ lw_tbl ∧ cd_gw (.codeWith ⟨"CapabilityDomainsLaw", "read", "(LCapabilityDomains;III[J)I"⟩ method_12_code 6 (some .int) [(0, 12, 15, 19), (0, 12, 19, 13), (0, 12, 23, 27), (0, 12, 27, 44), (0, 12, 31, 29), (0, 12, 35, 21)]) = true := cd_tw 540 (by decide +kernel) (by decide +kernel)
theorem ml_La_53 : (.methodLink "CapabilityDomainsLaw" 53 ⟨"CapabilityDomains", "read", "(III)I"⟩ : Cond) ∈ lw_tbl ∧ cd_gw (.methodLink "CapabilityDomainsLaw" 53 ⟨"CapabilityDomains", "read", "(III)I"⟩) = true := cd_tw 541 (by decide +kernel) (by decide +kernel)
theorem im_Cd_read : (.instanceMethod ⟨"CapabilityDomains", "read", "(III)I"⟩ : Cond) ∈ lw_tbl ∧ cd_gw (.instanceMethod ⟨"CapabilityDomains", "read", "(III)I"⟩) = true := cd_tw 542 (by decide +kernel) (by decide +kernel)
theorem se_Cd_read : (.selects "CapabilityDomains" ⟨"CapabilityDomains", "read", "(III)I"⟩ ⟨"CapabilityDomains", "read", "(III)I"⟩ : Cond) ∈ lw_tbl ∧ cd_gw (.selects "CapabilityDomains" ⟨"CapabilityDomains", "read", "(III)I"⟩ ⟨"CapabilityDomains", "read", "(III)I"⟩) = true := cd_tw 543 (by decide +kernel) (by decide +kernel)
theorem cw_Cd_read : (.code ⟨"CapabilityDomains", "read", "(III)I"⟩ prog_1_method_11_code 6 (some .int) : Cond) ∈ lw_tbl ∧ cd_gw (.code ⟨"CapabilityDomains", "read", "(III)I"⟩ prog_1_method_11_code 6 (some .int)) = true := cd_tw 544 (by decide +kernel) (by decide +kernel)
theorem ml_Cd_149 : (.methodLink "CapabilityDomains" 149 ⟨"CapabilityDomains", "usable", "(III)LCapabilityDomains$Capability;"⟩ : Cond) ∈ lw_tbl ∧ cd_gw (.methodLink "CapabilityDomains" 149 ⟨"CapabilityDomains", "usable", "(III)LCapabilityDomains$Capability;"⟩) = true := cd_tw 545 (by decide +kernel) (by decide +kernel)
theorem im_Cd_usable : (.instanceMethod ⟨"CapabilityDomains", "usable", "(III)LCapabilityDomains$Capability;"⟩ : Cond) ∈ lw_tbl ∧ cd_gw (.instanceMethod ⟨"CapabilityDomains", "usable", "(III)LCapabilityDomains$Capability;"⟩) = true := cd_tw 547 (by decide +kernel) (by decide +kernel)
theorem cw_Cd_usable : (.code ⟨"CapabilityDomains", "usable", "(III)LCapabilityDomains$Capability;"⟩ prog_1_method_33_code 5 (some (.object "CapabilityDomains$Capability")) : Cond) ∈ lw_tbl ∧ cd_gw (.code ⟨"CapabilityDomains", "usable", "(III)LCapabilityDomains$Capability;"⟩ prog_1_method_33_code 5 (some (.object "CapabilityDomains$Capability"))) = true := cd_tw 548 (by decide +kernel) (by decide +kernel)
theorem ml_Cd_259 : (.methodLink "CapabilityDomains" 259 ⟨"CapabilityDomains$Capability", "isUsedUp", "()Z"⟩ : Cond) ∈ lw_tbl ∧ cd_gw (.methodLink "CapabilityDomains" 259 ⟨"CapabilityDomains$Capability", "isUsedUp", "()Z"⟩) = true := cd_tw 549 (by decide +kernel) (by decide +kernel)
theorem im_Ca_isUsedUp : (.instanceMethod ⟨"CapabilityDomains$Capability", "isUsedUp", "()Z"⟩ : Cond) ∈ lw_tbl ∧ cd_gw (.instanceMethod ⟨"CapabilityDomains$Capability", "isUsedUp", "()Z"⟩) = true := cd_tw 550 (by decide +kernel) (by decide +kernel)
theorem se_Ca_isUsedUp : (.selects "CapabilityDomains$Capability" ⟨"CapabilityDomains$Capability", "isUsedUp", "()Z"⟩ ⟨"CapabilityDomains$Capability", "isUsedUp", "()Z"⟩ : Cond) ∈ lw_tbl ∧ cd_gw (.selects "CapabilityDomains$Capability" ⟨"CapabilityDomains$Capability", "isUsedUp", "()Z"⟩ ⟨"CapabilityDomains$Capability", "isUsedUp", "()Z"⟩) = true := cd_tw 551 (by decide +kernel) (by decide +kernel)
theorem cw_Ca_isUsedUp : (.code ⟨"CapabilityDomains$Capability", "isUsedUp", "()Z"⟩ prog_2_method_4_code 2 (some .boolean) : Cond) ∈ lw_tbl ∧ cd_gw (.code ⟨"CapabilityDomains$Capability", "isUsedUp", "()Z"⟩ prog_2_method_4_code 2 (some .boolean)) = true := cd_tw 552 (by decide +kernel) (by decide +kernel)
theorem ml_Cd_153 : (.methodLink "CapabilityDomains" 153 ⟨"CapabilityDomains", "targetField", "(LCapabilityDomains$Capability;I)LCapabilityDomains$Field;"⟩ : Cond) ∈ lw_tbl ∧ cd_gw (.methodLink "CapabilityDomains" 153 ⟨"CapabilityDomains", "targetField", "(LCapabilityDomains$Capability;I)LCapabilityDomains$Field;"⟩) = true := cd_tw 555 (by decide +kernel) (by decide +kernel)
theorem st_Cd_targetField : (.static ⟨"CapabilityDomains", "targetField", "(LCapabilityDomains$Capability;I)LCapabilityDomains$Field;"⟩ : Cond) ∈ lw_tbl ∧ cd_gw (.static ⟨"CapabilityDomains", "targetField", "(LCapabilityDomains$Capability;I)LCapabilityDomains$Field;"⟩) = true := cd_tw 556 (by decide +kernel) (by decide +kernel)
theorem cw_Cd_targetField : (.code ⟨"CapabilityDomains", "targetField", "(LCapabilityDomains$Capability;I)LCapabilityDomains$Field;"⟩ prog_1_method_34_code 2 (some (.object "CapabilityDomains$Field")) : Cond) ∈ lw_tbl ∧ cd_gw (.code ⟨"CapabilityDomains", "targetField", "(LCapabilityDomains$Capability;I)LCapabilityDomains$Field;"⟩ prog_1_method_34_code 2 (some (.object "CapabilityDomains$Field"))) = true := cd_tw 557 (by decide +kernel) (by decide +kernel)
theorem ml_Cd_157 : (.methodLink "CapabilityDomains" 157 ⟨"CapabilityDomains$Field", "isNumber", "()Z"⟩ : Cond) ∈ lw_tbl ∧ cd_gw (.methodLink "CapabilityDomains" 157 ⟨"CapabilityDomains$Field", "isNumber", "()Z"⟩) = true := cd_tw 558 (by decide +kernel) (by decide +kernel)
theorem im_Fi_isNumber : (.instanceMethod ⟨"CapabilityDomains$Field", "isNumber", "()Z"⟩ : Cond) ∈ lw_tbl ∧ cd_gw (.instanceMethod ⟨"CapabilityDomains$Field", "isNumber", "()Z"⟩) = true := cd_tw 559 (by decide +kernel) (by decide +kernel)
theorem se_Fi_isNumber : (.selects "CapabilityDomains$Field" ⟨"CapabilityDomains$Field", "isNumber", "()Z"⟩ ⟨"CapabilityDomains$Field", "isNumber", "()Z"⟩ : Cond) ∈ lw_tbl ∧ cd_gw (.selects "CapabilityDomains$Field" ⟨"CapabilityDomains$Field", "isNumber", "()Z"⟩ ⟨"CapabilityDomains$Field", "isNumber", "()Z"⟩) = true := cd_tw 560 (by decide +kernel) (by decide +kernel)
theorem cw_Fi_isNumber : (.code ⟨"CapabilityDomains$Field", "isNumber", "()Z"⟩ prog_5_method_3_code 1 (some .boolean) : Cond) ∈ lw_tbl ∧ cd_gw (.code ⟨"CapabilityDomains$Field", "isNumber", "()Z"⟩ prog_5_method_3_code 1 (some .boolean)) = true := cd_tw 561 (by decide +kernel) (by decide +kernel)
theorem ml_Cd_163 : (.methodLink "CapabilityDomains" 163 ⟨"CapabilityDomains$Capability", "spendOneUse", "()V"⟩ : Cond) ∈ lw_tbl ∧ cd_gw (.methodLink "CapabilityDomains" 163 ⟨"CapabilityDomains$Capability", "spendOneUse", "()V"⟩) = true := cd_tw 563 (by decide +kernel) (by decide +kernel)
theorem im_Ca_spendOneUse : (.instanceMethod ⟨"CapabilityDomains$Capability", "spendOneUse", "()V"⟩ : Cond) ∈ lw_tbl ∧ cd_gw (.instanceMethod ⟨"CapabilityDomains$Capability", "spendOneUse", "()V"⟩) = true := cd_tw 564 (by decide +kernel) (by decide +kernel)
theorem se_Ca_spendOneUse : (.selects "CapabilityDomains$Capability" ⟨"CapabilityDomains$Capability", "spendOneUse", "()V"⟩ ⟨"CapabilityDomains$Capability", "spendOneUse", "()V"⟩ : Cond) ∈ lw_tbl ∧ cd_gw (.selects "CapabilityDomains$Capability" ⟨"CapabilityDomains$Capability", "spendOneUse", "()V"⟩ ⟨"CapabilityDomains$Capability", "spendOneUse", "()V"⟩) = true := cd_tw 565 (by decide +kernel) (by decide +kernel)
theorem cw_Ca_spendOneUse : (.code ⟨"CapabilityDomains$Capability", "spendOneUse", "()V"⟩ prog_2_method_5_code 2 none : Cond) ∈ lw_tbl ∧ cd_gw (.code ⟨"CapabilityDomains$Capability", "spendOneUse", "()V"⟩ prog_2_method_5_code 2 none) = true := cd_tw 566 (by decide +kernel) (by decide +kernel)
theorem ml_La_117 : (.methodLink "CapabilityDomainsLaw" 117 ⟨"CapabilityDomainsLaw", "write", "(LCapabilityDomains;IIII[J)I"⟩ : Cond) ∈ lw_tbl ∧ cd_gw (.methodLink "CapabilityDomainsLaw" 117 ⟨"CapabilityDomainsLaw", "write", "(LCapabilityDomains;IIII[J)I"⟩) = true := cd_tw 567 (by decide +kernel) (by decide +kernel)
theorem st_La_write : (.static ⟨"CapabilityDomainsLaw", "write", "(LCapabilityDomains;IIII[J)I"⟩ : Cond) ∈ lw_tbl ∧ cd_gw (.static ⟨"CapabilityDomainsLaw", "write", "(LCapabilityDomains;IIII[J)I"⟩) = true := cd_tw 568 (by decide +kernel) (by decide +kernel)
theorem cw_La_write : (.codeWith ⟨"CapabilityDomainsLaw", "write", "(LCapabilityDomains;IIII[J)I"⟩ method_13_code 7 (some .int) [(0, 14, 17, 19), (0, 14, 21, 13), (0, 14, 25, 27), (0, 14, 29, 44), (0, 14, 33, 29)] : Cond) ∈ lw_tbl ∧ cd_gw (.codeWith ⟨"CapabilityDomainsLaw", "write", "(LCapabilityDomains;IIII[J)I"⟩ method_13_code 7 (some .int) [(0, 14, 17, 19), (0, 14, 21, 13), (0, 14, 25, 27), (0, 14, 29, 44), (0, 14, 33, 29)]) = true := cd_tw 569 (by decide +kernel) (by decide +kernel)
theorem ml_La_57 : (.methodLink "CapabilityDomainsLaw" 57 ⟨"CapabilityDomains", "write", "(IIII)I"⟩ : Cond) ∈ lw_tbl ∧ cd_gw (.methodLink "CapabilityDomainsLaw" 57 ⟨"CapabilityDomains", "write", "(IIII)I"⟩) = true := cd_tw 570 (by decide +kernel) (by decide +kernel)
theorem im_Cd_write : (.instanceMethod ⟨"CapabilityDomains", "write", "(IIII)I"⟩ : Cond) ∈ lw_tbl ∧ cd_gw (.instanceMethod ⟨"CapabilityDomains", "write", "(IIII)I"⟩) = true := cd_tw 571 (by decide +kernel) (by decide +kernel)
theorem se_Cd_write : (.selects "CapabilityDomains" ⟨"CapabilityDomains", "write", "(IIII)I"⟩ ⟨"CapabilityDomains", "write", "(IIII)I"⟩ : Cond) ∈ lw_tbl ∧ cd_gw (.selects "CapabilityDomains" ⟨"CapabilityDomains", "write", "(IIII)I"⟩ ⟨"CapabilityDomains", "write", "(IIII)I"⟩) = true := cd_tw 572 (by decide +kernel) (by decide +kernel)
theorem cw_Cd_write : (.code ⟨"CapabilityDomains", "write", "(IIII)I"⟩ prog_1_method_12_code 6 (some .int) : Cond) ∈ lw_tbl ∧ cd_gw (.code ⟨"CapabilityDomains", "write", "(IIII)I"⟩ prog_1_method_12_code 6 (some .int)) = true := cd_tw 573 (by decide +kernel) (by decide +kernel)
theorem ml_La_120 : (.methodLink "CapabilityDomainsLaw" 120 ⟨"CapabilityDomainsLaw", "pass", "(LCapabilityDomains;IIII[J)I"⟩ : Cond) ∈ lw_tbl ∧ cd_gw (.methodLink "CapabilityDomainsLaw" 120 ⟨"CapabilityDomainsLaw", "pass", "(LCapabilityDomains;IIII[J)I"⟩) = true := cd_tw 574 (by decide +kernel) (by decide +kernel)
theorem st_La_pass : (.static ⟨"CapabilityDomainsLaw", "pass", "(LCapabilityDomains;IIII[J)I"⟩ : Cond) ∈ lw_tbl ∧ cd_gw (.static ⟨"CapabilityDomainsLaw", "pass", "(LCapabilityDomains;IIII[J)I"⟩) = true := cd_tw 575 (by decide +kernel) (by decide +kernel)
theorem cw_La_pass : (.codeWith ⟨"CapabilityDomainsLaw", "pass", "(LCapabilityDomains;IIII[J)I"⟩ method_14_code 7 (some .int) [(0, 14, 17, 19), (0, 14, 21, 13), (0, 14, 25, 27), (0, 14, 29, 44), (0, 14, 33, 29), (0, 14, 37, 21)] : Cond) ∈ lw_tbl ∧ cd_gw (.codeWith ⟨"CapabilityDomainsLaw", "pass", "(LCapabilityDomains;IIII[J)I"⟩ method_14_code 7 (some .int) [(0, 14, 17, 19), (0, 14, 21, 13), (0, 14, 25, 27), (0, 14, 29, 44), (0, 14, 33, 29), (0, 14, 37, 21)]) = true := cd_tw 576 (by decide +kernel) (by decide +kernel)
theorem ml_La_60 : (.methodLink "CapabilityDomainsLaw" 60 ⟨"CapabilityDomains", "pass", "(IIII)I"⟩ : Cond) ∈ lw_tbl ∧ cd_gw (.methodLink "CapabilityDomainsLaw" 60 ⟨"CapabilityDomains", "pass", "(IIII)I"⟩) = true := cd_tw 577 (by decide +kernel) (by decide +kernel)
theorem im_Cd_pass : (.instanceMethod ⟨"CapabilityDomains", "pass", "(IIII)I"⟩ : Cond) ∈ lw_tbl ∧ cd_gw (.instanceMethod ⟨"CapabilityDomains", "pass", "(IIII)I"⟩) = true := cd_tw 578 (by decide +kernel) (by decide +kernel)
theorem se_Cd_pass : (.selects "CapabilityDomains" ⟨"CapabilityDomains", "pass", "(IIII)I"⟩ ⟨"CapabilityDomains", "pass", "(IIII)I"⟩ : Cond) ∈ lw_tbl ∧ cd_gw (.selects "CapabilityDomains" ⟨"CapabilityDomains", "pass", "(IIII)I"⟩ ⟨"CapabilityDomains", "pass", "(IIII)I"⟩) = true := cd_tw 579 (by decide +kernel) (by decide +kernel)
theorem cw_Cd_pass : (.code ⟨"CapabilityDomains", "pass", "(IIII)I"⟩ prog_1_method_13_code 8 (some .int) : Cond) ∈ lw_tbl ∧ cd_gw (.code ⟨"CapabilityDomains", "pass", "(IIII)I"⟩ prog_1_method_13_code 8 (some .int)) = true := cd_tw 580 (by decide +kernel) (by decide +kernel)
theorem ml_Cd_171 : (.methodLink "CapabilityDomains" 171 ⟨"CapabilityDomains$Reach", "start", "(LCapabilityDomains$Domain;I)V"⟩ : Cond) ∈ lw_tbl ∧ cd_gw (.methodLink "CapabilityDomains" 171 ⟨"CapabilityDomains$Reach", "start", "(LCapabilityDomains$Domain;I)V"⟩) = true := cd_tw 582 (by decide +kernel) (by decide +kernel)
theorem im_Re_start : (.instanceMethod ⟨"CapabilityDomains$Reach", "start", "(LCapabilityDomains$Domain;I)V"⟩ : Cond) ∈ lw_tbl ∧ cd_gw (.instanceMethod ⟨"CapabilityDomains$Reach", "start", "(LCapabilityDomains$Domain;I)V"⟩) = true := cd_tw 583 (by decide +kernel) (by decide +kernel)
theorem se_Re_start : (.selects "CapabilityDomains$Reach" ⟨"CapabilityDomains$Reach", "start", "(LCapabilityDomains$Domain;I)V"⟩ ⟨"CapabilityDomains$Reach", "start", "(LCapabilityDomains$Domain;I)V"⟩ : Cond) ∈ lw_tbl ∧ cd_gw (.selects "CapabilityDomains$Reach" ⟨"CapabilityDomains$Reach", "start", "(LCapabilityDomains$Domain;I)V"⟩ ⟨"CapabilityDomains$Reach", "start", "(LCapabilityDomains$Domain;I)V"⟩) = true := cd_tw 584 (by decide +kernel) (by decide +kernel)
theorem cw_Re_start : (.code ⟨"CapabilityDomains$Reach", "start", "(LCapabilityDomains$Domain;I)V"⟩ prog_6_method_2_code 4 none : Cond) ∈ lw_tbl ∧ cd_gw (.code ⟨"CapabilityDomains$Reach", "start", "(LCapabilityDomains$Domain;I)V"⟩ prog_6_method_2_code 4 none) = true := cd_tw 585 (by decide +kernel) (by decide +kernel)
theorem ml_Re_30 : (.methodLink "CapabilityDomains$Reach" 30 ⟨"CapabilityDomains$Reach", "comeTo", "(II)V"⟩ : Cond) ∈ lw_tbl ∧ cd_gw (.methodLink "CapabilityDomains$Reach" 30 ⟨"CapabilityDomains$Reach", "comeTo", "(II)V"⟩) = true := cd_tw 586 (by decide +kernel) (by decide +kernel)
theorem im_Re_comeTo : (.instanceMethod ⟨"CapabilityDomains$Reach", "comeTo", "(II)V"⟩ : Cond) ∈ lw_tbl ∧ cd_gw (.instanceMethod ⟨"CapabilityDomains$Reach", "comeTo", "(II)V"⟩) = true := cd_tw 588 (by decide +kernel) (by decide +kernel)
theorem cw_Re_comeTo : (.code ⟨"CapabilityDomains$Reach", "comeTo", "(II)V"⟩ prog_6_method_3_code 4 none : Cond) ∈ lw_tbl ∧ cd_gw (.code ⟨"CapabilityDomains$Reach", "comeTo", "(II)V"⟩ prog_6_method_3_code 4 none) = true := cd_tw 589 (by decide +kernel) (by decide +kernel)
theorem ml_Re_34 : (.methodLink "CapabilityDomains$Reach" 34 ⟨"CapabilityDomains$Domain", "hasObject", "(I)Z"⟩ : Cond) ∈ lw_tbl ∧ cd_gw (.methodLink "CapabilityDomains$Reach" 34 ⟨"CapabilityDomains$Domain", "hasObject", "(I)Z"⟩) = true := cd_tw 590 (by decide +kernel) (by decide +kernel)
theorem ml_Cd_180 : (.methodLink "CapabilityDomains" 180 ⟨"CapabilityDomains$Reach", "copyInto", "(LCapabilityDomains$Domain;)V"⟩ : Cond) ∈ lw_tbl ∧ cd_gw (.methodLink "CapabilityDomains" 180 ⟨"CapabilityDomains$Reach", "copyInto", "(LCapabilityDomains$Domain;)V"⟩) = true := cd_tw 592 (by decide +kernel) (by decide +kernel)
theorem im_Re_copyInto : (.instanceMethod ⟨"CapabilityDomains$Reach", "copyInto", "(LCapabilityDomains$Domain;)V"⟩ : Cond) ∈ lw_tbl ∧ cd_gw (.instanceMethod ⟨"CapabilityDomains$Reach", "copyInto", "(LCapabilityDomains$Domain;)V"⟩) = true := cd_tw 593 (by decide +kernel) (by decide +kernel)
theorem se_Re_copyInto : (.selects "CapabilityDomains$Reach" ⟨"CapabilityDomains$Reach", "copyInto", "(LCapabilityDomains$Domain;)V"⟩ ⟨"CapabilityDomains$Reach", "copyInto", "(LCapabilityDomains$Domain;)V"⟩ : Cond) ∈ lw_tbl ∧ cd_gw (.selects "CapabilityDomains$Reach" ⟨"CapabilityDomains$Reach", "copyInto", "(LCapabilityDomains$Domain;)V"⟩ ⟨"CapabilityDomains$Reach", "copyInto", "(LCapabilityDomains$Domain;)V"⟩) = true := cd_tw 594 (by decide +kernel) (by decide +kernel)
theorem cw_Re_copyInto : (.code ⟨"CapabilityDomains$Reach", "copyInto", "(LCapabilityDomains$Domain;)V"⟩ prog_6_method_4_code 3 none : Cond) ∈ lw_tbl ∧ cd_gw (.code ⟨"CapabilityDomains$Reach", "copyInto", "(LCapabilityDomains$Domain;)V"⟩ prog_6_method_4_code 3 none) = true := cd_tw 595 (by decide +kernel) (by decide +kernel)
theorem ml_Re_55 : (.methodLink "CapabilityDomains$Reach" 55 ⟨"CapabilityDomains$Domain", "makeObject", "()I"⟩ : Cond) ∈ lw_tbl ∧ cd_gw (.methodLink "CapabilityDomains$Reach" 55 ⟨"CapabilityDomains$Domain", "makeObject", "()I"⟩) = true := cd_tw 596 (by decide +kernel) (by decide +kernel)
theorem ml_Re_59 : (.methodLink "CapabilityDomains$Reach" 59 ⟨"CapabilityDomains$Reach", "copyFields", "(LCapabilityDomains$DomainObject;LCapabilityDomains$DomainObject;)V"⟩ : Cond) ∈ lw_tbl ∧ cd_gw (.methodLink "CapabilityDomains$Reach" 59 ⟨"CapabilityDomains$Reach", "copyFields", "(LCapabilityDomains$DomainObject;LCapabilityDomains$DomainObject;)V"⟩) = true := cd_tw 597 (by decide +kernel) (by decide +kernel)
theorem im_Re_copyFields : (.instanceMethod ⟨"CapabilityDomains$Reach", "copyFields", "(LCapabilityDomains$DomainObject;LCapabilityDomains$DomainObject;)V"⟩ : Cond) ∈ lw_tbl ∧ cd_gw (.instanceMethod ⟨"CapabilityDomains$Reach", "copyFields", "(LCapabilityDomains$DomainObject;LCapabilityDomains$DomainObject;)V"⟩) = true := cd_tw 599 (by decide +kernel) (by decide +kernel)
theorem cw_Re_copyFields : (.code ⟨"CapabilityDomains$Reach", "copyFields", "(LCapabilityDomains$DomainObject;LCapabilityDomains$DomainObject;)V"⟩ prog_6_method_5_code 5 none : Cond) ∈ lw_tbl ∧ cd_gw (.code ⟨"CapabilityDomains$Reach", "copyFields", "(LCapabilityDomains$DomainObject;LCapabilityDomains$DomainObject;)V"⟩ prog_6_method_5_code 5 none) = true := cd_tw 600 (by decide +kernel) (by decide +kernel)
theorem ml_Re_63 : (.methodLink "CapabilityDomains$Reach" 63 ⟨"CapabilityDomains$Field", "isLink", "()Z"⟩ : Cond) ∈ lw_tbl ∧ cd_gw (.methodLink "CapabilityDomains$Reach" 63 ⟨"CapabilityDomains$Field", "isLink", "()Z"⟩) = true := cd_tw 601 (by decide +kernel) (by decide +kernel)
theorem ml_Re_67 : (.methodLink "CapabilityDomains$Reach" 67 ⟨"CapabilityDomains$Field", "becomeLink", "(I)V"⟩ : Cond) ∈ lw_tbl ∧ cd_gw (.methodLink "CapabilityDomains$Reach" 67 ⟨"CapabilityDomains$Field", "becomeLink", "(I)V"⟩) = true := cd_tw 602 (by decide +kernel) (by decide +kernel)
theorem ml_Re_75 : (.methodLink "CapabilityDomains$Reach" 75 ⟨"CapabilityDomains$Field", "becomeCapability", "(LCapabilityDomains$Capability;)V"⟩ : Cond) ∈ lw_tbl ∧ cd_gw (.methodLink "CapabilityDomains$Reach" 75 ⟨"CapabilityDomains$Field", "becomeCapability", "(LCapabilityDomains$Capability;)V"⟩) = true := cd_tw 603 (by decide +kernel) (by decide +kernel)
theorem ml_Re_82 : (.methodLink "CapabilityDomains$Reach" 82 ⟨"CapabilityDomains$Field", "becomeNumber", "(I)V"⟩ : Cond) ∈ lw_tbl ∧ cd_gw (.methodLink "CapabilityDomains$Reach" 82 ⟨"CapabilityDomains$Field", "becomeNumber", "(I)V"⟩) = true := cd_tw 604 (by decide +kernel) (by decide +kernel)
theorem ml_La_123 : (.methodLink "CapabilityDomainsLaw" 123 ⟨"CapabilityDomainsLaw", "take", "(LCapabilityDomains;IIII[J)I"⟩ : Cond) ∈ lw_tbl ∧ cd_gw (.methodLink "CapabilityDomainsLaw" 123 ⟨"CapabilityDomainsLaw", "take", "(LCapabilityDomains;IIII[J)I"⟩) = true := cd_tw 605 (by decide +kernel) (by decide +kernel)
theorem st_La_take : (.static ⟨"CapabilityDomainsLaw", "take", "(LCapabilityDomains;IIII[J)I"⟩ : Cond) ∈ lw_tbl ∧ cd_gw (.static ⟨"CapabilityDomainsLaw", "take", "(LCapabilityDomains;IIII[J)I"⟩) = true := cd_tw 606 (by decide +kernel) (by decide +kernel)
theorem cw_La_take : (.codeWith ⟨"CapabilityDomainsLaw", "take", "(LCapabilityDomains;IIII[J)I"⟩ method_15_code 7 (some .int) [(0, 14, 17, 19), (0, 14, 21, 13), (0, 14, 25, 27), (0, 14, 29, 44), (0, 14, 33, 29), (0, 14, 37, 21)] : Cond) ∈ lw_tbl ∧ cd_gw (.codeWith ⟨"CapabilityDomainsLaw", "take", "(LCapabilityDomains;IIII[J)I"⟩ method_15_code 7 (some .int) [(0, 14, 17, 19), (0, 14, 21, 13), (0, 14, 25, 27), (0, 14, 29, 44), (0, 14, 33, 29), (0, 14, 37, 21)]) = true := cd_tw 607 (by decide +kernel) (by decide +kernel)
theorem ml_La_63 : (.methodLink "CapabilityDomainsLaw" 63 ⟨"CapabilityDomains", "take", "(IIII)I"⟩ : Cond) ∈ lw_tbl ∧ cd_gw (.methodLink "CapabilityDomainsLaw" 63 ⟨"CapabilityDomains", "take", "(IIII)I"⟩) = true := cd_tw 608 (by decide +kernel) (by decide +kernel)
theorem im_Cd_take : (.instanceMethod ⟨"CapabilityDomains", "take", "(IIII)I"⟩ : Cond) ∈ lw_tbl ∧ cd_gw (.instanceMethod ⟨"CapabilityDomains", "take", "(IIII)I"⟩) = true := cd_tw 609 (by decide +kernel) (by decide +kernel)
theorem se_Cd_take : (.selects "CapabilityDomains" ⟨"CapabilityDomains", "take", "(IIII)I"⟩ ⟨"CapabilityDomains", "take", "(IIII)I"⟩ : Cond) ∈ lw_tbl ∧ cd_gw (.selects "CapabilityDomains" ⟨"CapabilityDomains", "take", "(IIII)I"⟩ ⟨"CapabilityDomains", "take", "(IIII)I"⟩) = true := cd_tw 610 (by decide +kernel) (by decide +kernel)
theorem cw_Cd_take : (.code ⟨"CapabilityDomains", "take", "(IIII)I"⟩ prog_1_method_14_code 7 (some .int) : Cond) ∈ lw_tbl ∧ cd_gw (.code ⟨"CapabilityDomains", "take", "(IIII)I"⟩ prog_1_method_14_code 7 (some .int)) = true := cd_tw 611 (by decide +kernel) (by decide +kernel)
theorem ml_La_126 : (.methodLink "CapabilityDomainsLaw" 126 ⟨"CapabilityDomainsLaw", "free", "(LCapabilityDomains;II[J)I"⟩ : Cond) ∈ lw_tbl ∧ cd_gw (.methodLink "CapabilityDomainsLaw" 126 ⟨"CapabilityDomainsLaw", "free", "(LCapabilityDomains;II[J)I"⟩) = true := cd_tw 613 (by decide +kernel) (by decide +kernel)
theorem st_La_free : (.static ⟨"CapabilityDomainsLaw", "free", "(LCapabilityDomains;II[J)I"⟩ : Cond) ∈ lw_tbl ∧ cd_gw (.static ⟨"CapabilityDomainsLaw", "free", "(LCapabilityDomains;II[J)I"⟩) = true := cd_tw 614 (by decide +kernel) (by decide +kernel)
theorem cw_La_free : (.codeWith ⟨"CapabilityDomainsLaw", "free", "(LCapabilityDomains;II[J)I"⟩ method_16_code 5 (some .int) [(0, 10, 13, 19), (0, 10, 17, 13), (0, 10, 21, 27), (0, 10, 25, 44)] : Cond) ∈ lw_tbl ∧ cd_gw (.codeWith ⟨"CapabilityDomainsLaw", "free", "(LCapabilityDomains;II[J)I"⟩ method_16_code 5 (some .int) [(0, 10, 13, 19), (0, 10, 17, 13), (0, 10, 21, 27), (0, 10, 25, 44)]) = true := cd_tw 615 (by decide +kernel) (by decide +kernel)
theorem ml_La_66 : (.methodLink "CapabilityDomainsLaw" 66 ⟨"CapabilityDomains", "free", "(II)I"⟩ : Cond) ∈ lw_tbl ∧ cd_gw (.methodLink "CapabilityDomainsLaw" 66 ⟨"CapabilityDomains", "free", "(II)I"⟩) = true := cd_tw 616 (by decide +kernel) (by decide +kernel)
theorem im_Cd_free : (.instanceMethod ⟨"CapabilityDomains", "free", "(II)I"⟩ : Cond) ∈ lw_tbl ∧ cd_gw (.instanceMethod ⟨"CapabilityDomains", "free", "(II)I"⟩) = true := cd_tw 617 (by decide +kernel) (by decide +kernel)
theorem se_Cd_free : (.selects "CapabilityDomains" ⟨"CapabilityDomains", "free", "(II)I"⟩ ⟨"CapabilityDomains", "free", "(II)I"⟩ : Cond) ∈ lw_tbl ∧ cd_gw (.selects "CapabilityDomains" ⟨"CapabilityDomains", "free", "(II)I"⟩ ⟨"CapabilityDomains", "free", "(II)I"⟩) = true := cd_tw 618 (by decide +kernel) (by decide +kernel)
theorem cw_Cd_free : (.code ⟨"CapabilityDomains", "free", "(II)I"⟩ prog_1_method_15_code 5 (some .int) : Cond) ∈ lw_tbl ∧ cd_gw (.code ⟨"CapabilityDomains", "free", "(II)I"⟩ prog_1_method_15_code 5 (some .int)) = true := cd_tw 619 (by decide +kernel) (by decide +kernel)
theorem ml_Cd_194 : (.methodLink "CapabilityDomains" 194 ⟨"CapabilityDomains$Domain", "removeObject", "(I)I"⟩ : Cond) ∈ lw_tbl ∧ cd_gw (.methodLink "CapabilityDomains" 194 ⟨"CapabilityDomains$Domain", "removeObject", "(I)I"⟩) = true := cd_tw 620 (by decide +kernel) (by decide +kernel)
theorem im_Do_removeObject : (.instanceMethod ⟨"CapabilityDomains$Domain", "removeObject", "(I)I"⟩ : Cond) ∈ lw_tbl ∧ cd_gw (.instanceMethod ⟨"CapabilityDomains$Domain", "removeObject", "(I)I"⟩) = true := cd_tw 621 (by decide +kernel) (by decide +kernel)
theorem se_Do_removeObject : (.selects "CapabilityDomains$Domain" ⟨"CapabilityDomains$Domain", "removeObject", "(I)I"⟩ ⟨"CapabilityDomains$Domain", "removeObject", "(I)I"⟩ : Cond) ∈ lw_tbl ∧ cd_gw (.selects "CapabilityDomains$Domain" ⟨"CapabilityDomains$Domain", "removeObject", "(I)I"⟩ ⟨"CapabilityDomains$Domain", "removeObject", "(I)I"⟩) = true := cd_tw 622 (by decide +kernel) (by decide +kernel)
theorem cw_Do_removeObject : (.code ⟨"CapabilityDomains$Domain", "removeObject", "(I)I"⟩ prog_3_method_5_code 4 (some .int) : Cond) ∈ lw_tbl ∧ cd_gw (.code ⟨"CapabilityDomains$Domain", "removeObject", "(I)I"⟩ prog_3_method_5_code 4 (some .int)) = true := cd_tw 623 (by decide +kernel) (by decide +kernel)
theorem ml_Do_31 : (.methodLink "CapabilityDomains$Domain" 31 ⟨"CapabilityDomains$DomainObject", "unlink", "(I)I"⟩ : Cond) ∈ lw_tbl ∧ cd_gw (.methodLink "CapabilityDomains$Domain" 31 ⟨"CapabilityDomains$DomainObject", "unlink", "(I)I"⟩) = true := cd_tw 624 (by decide +kernel) (by decide +kernel)
theorem im_Ob_unlink : (.instanceMethod ⟨"CapabilityDomains$DomainObject", "unlink", "(I)I"⟩ : Cond) ∈ lw_tbl ∧ cd_gw (.instanceMethod ⟨"CapabilityDomains$DomainObject", "unlink", "(I)I"⟩) = true := cd_tw 625 (by decide +kernel) (by decide +kernel)
theorem se_Ob_unlink : (.selects "CapabilityDomains$DomainObject" ⟨"CapabilityDomains$DomainObject", "unlink", "(I)I"⟩ ⟨"CapabilityDomains$DomainObject", "unlink", "(I)I"⟩ : Cond) ∈ lw_tbl ∧ cd_gw (.selects "CapabilityDomains$DomainObject" ⟨"CapabilityDomains$DomainObject", "unlink", "(I)I"⟩ ⟨"CapabilityDomains$DomainObject", "unlink", "(I)I"⟩) = true := cd_tw 626 (by decide +kernel) (by decide +kernel)
theorem cw_Ob_unlink : (.code ⟨"CapabilityDomains$DomainObject", "unlink", "(I)I"⟩ prog_4_method_3_code 4 (some .int) : Cond) ∈ lw_tbl ∧ cd_gw (.code ⟨"CapabilityDomains$DomainObject", "unlink", "(I)I"⟩ prog_4_method_3_code 4 (some .int)) = true := cd_tw 627 (by decide +kernel) (by decide +kernel)
theorem ml_La_129 : (.methodLink "CapabilityDomainsLaw" 129 ⟨"CapabilityDomainsLaw", "end", "(LCapabilityDomains;I[J)I"⟩ : Cond) ∈ lw_tbl ∧ cd_gw (.methodLink "CapabilityDomainsLaw" 129 ⟨"CapabilityDomainsLaw", "end", "(LCapabilityDomains;I[J)I"⟩) = true := cd_tw 628 (by decide +kernel) (by decide +kernel)
theorem st_La_end : (.static ⟨"CapabilityDomainsLaw", "end", "(LCapabilityDomains;I[J)I"⟩ : Cond) ∈ lw_tbl ∧ cd_gw (.static ⟨"CapabilityDomainsLaw", "end", "(LCapabilityDomains;I[J)I"⟩) = true := cd_tw 629 (by decide +kernel) (by decide +kernel)
theorem cw_La_end : (.codeWith ⟨"CapabilityDomainsLaw", "end", "(LCapabilityDomains;I[J)I"⟩ method_17_code 4 (some .int) [(0, 9, 12, 19), (0, 9, 15, 13)] : Cond) ∈ lw_tbl ∧ cd_gw (.codeWith ⟨"CapabilityDomainsLaw", "end", "(LCapabilityDomains;I[J)I"⟩ method_17_code 4 (some .int) [(0, 9, 12, 19), (0, 9, 15, 13)]) = true := cd_tw 630 (by decide +kernel) (by decide +kernel)
theorem ml_La_69 : (.methodLink "CapabilityDomainsLaw" 69 ⟨"CapabilityDomains", "end", "(I)I"⟩ : Cond) ∈ lw_tbl ∧ cd_gw (.methodLink "CapabilityDomainsLaw" 69 ⟨"CapabilityDomains", "end", "(I)I"⟩) = true := cd_tw 631 (by decide +kernel) (by decide +kernel)
theorem im_Cd_end : (.instanceMethod ⟨"CapabilityDomains", "end", "(I)I"⟩ : Cond) ∈ lw_tbl ∧ cd_gw (.instanceMethod ⟨"CapabilityDomains", "end", "(I)I"⟩) = true := cd_tw 632 (by decide +kernel) (by decide +kernel)
theorem se_Cd_end : (.selects "CapabilityDomains" ⟨"CapabilityDomains", "end", "(I)I"⟩ ⟨"CapabilityDomains", "end", "(I)I"⟩ : Cond) ∈ lw_tbl ∧ cd_gw (.selects "CapabilityDomains" ⟨"CapabilityDomains", "end", "(I)I"⟩ ⟨"CapabilityDomains", "end", "(I)I"⟩) = true := cd_tw 633 (by decide +kernel) (by decide +kernel)
theorem cw_Cd_end : (.code ⟨"CapabilityDomains", "end", "(I)I"⟩ prog_1_method_16_code 2 (some .int) : Cond) ∈ lw_tbl ∧ cd_gw (.code ⟨"CapabilityDomains", "end", "(I)I"⟩ prog_1_method_16_code 2 (some .int)) = true := cd_tw 634 (by decide +kernel) (by decide +kernel)
theorem ml_Cd_198 : (.methodLink "CapabilityDomains" 198 ⟨"CapabilityDomains$Domain", "finish", "()V"⟩ : Cond) ∈ lw_tbl ∧ cd_gw (.methodLink "CapabilityDomains" 198 ⟨"CapabilityDomains$Domain", "finish", "()V"⟩) = true := cd_tw 635 (by decide +kernel) (by decide +kernel)
theorem im_Do_finish : (.instanceMethod ⟨"CapabilityDomains$Domain", "finish", "()V"⟩ : Cond) ∈ lw_tbl ∧ cd_gw (.instanceMethod ⟨"CapabilityDomains$Domain", "finish", "()V"⟩) = true := cd_tw 636 (by decide +kernel) (by decide +kernel)
theorem se_Do_finish : (.selects "CapabilityDomains$Domain" ⟨"CapabilityDomains$Domain", "finish", "()V"⟩ ⟨"CapabilityDomains$Domain", "finish", "()V"⟩ : Cond) ∈ lw_tbl ∧ cd_gw (.selects "CapabilityDomains$Domain" ⟨"CapabilityDomains$Domain", "finish", "()V"⟩ ⟨"CapabilityDomains$Domain", "finish", "()V"⟩) = true := cd_tw 637 (by decide +kernel) (by decide +kernel)
theorem cw_Do_finish : (.code ⟨"CapabilityDomains$Domain", "finish", "()V"⟩ prog_3_method_7_code 2 none : Cond) ∈ lw_tbl ∧ cd_gw (.code ⟨"CapabilityDomains$Domain", "finish", "()V"⟩ prog_3_method_7_code 2 none) = true := cd_tw 638 (by decide +kernel) (by decide +kernel)
theorem kl_La_73 : (.classLink "CapabilityDomainsLaw" 73 "CapabilityDomainsModel" : Cond) ∈ lw_tbl ∧ cd_gw (.classLink "CapabilityDomainsLaw" 73 "CapabilityDomainsModel") = true := cd_tw 639 (by decide +kernel) (by decide +kernel)
theorem ia_Mo : (.instantiable "CapabilityDomainsModel" 18 : Cond) ∈ lw_tbl ∧ cd_gw (.instantiable "CapabilityDomainsModel" 18) = true := cd_tw 640 (by decide +kernel) (by decide +kernel)
theorem ml_La_75 : (.methodLink "CapabilityDomainsLaw" 75 ⟨"CapabilityDomainsModel", "<init>", "()V"⟩ : Cond) ∈ lw_tbl ∧ cd_gw (.methodLink "CapabilityDomainsLaw" 75 ⟨"CapabilityDomainsModel", "<init>", "()V"⟩) = true := cd_tw 641 (by decide +kernel) (by decide +kernel)
theorem im_Mo_init : (.instanceMethod ⟨"CapabilityDomainsModel", "<init>", "()V"⟩ : Cond) ∈ lw_tbl ∧ cd_gw (.instanceMethod ⟨"CapabilityDomainsModel", "<init>", "()V"⟩) = true := cd_tw 642 (by decide +kernel) (by decide +kernel)
theorem cw_Mo_init : (.code ⟨"CapabilityDomainsModel", "<init>", "()V"⟩ prog_8_method_1_code 2 none : Cond) ∈ lw_tbl ∧ cd_gw (.code ⟨"CapabilityDomainsModel", "<init>", "()V"⟩ prog_8_method_1_code 2 none) = true := cd_tw 643 (by decide +kernel) (by decide +kernel)
theorem ml_Mo_1 : (.methodLink "CapabilityDomainsModel" 1 ⟨"java/lang/Object", "<init>", "()V"⟩ : Cond) ∈ lw_tbl ∧ cd_gw (.methodLink "CapabilityDomainsModel" 1 ⟨"java/lang/Object", "<init>", "()V"⟩) = true := cd_tw 644 (by decide +kernel) (by decide +kernel)
theorem lk_Mo_7 : (.fieldLink "CapabilityDomainsModel" 7 "CapabilityDomainsModel" "domains" "I" : Cond) ∈ lw_tbl ∧ cd_gw (.fieldLink "CapabilityDomainsModel" 7 "CapabilityDomainsModel" "domains" "I") = true := cd_tw 645 (by decide +kernel) (by decide +kernel)
theorem lk_Mo_13 : (.fieldLink "CapabilityDomainsModel" 13 "CapabilityDomainsModel" "made" "I" : Cond) ∈ lw_tbl ∧ cd_gw (.fieldLink "CapabilityDomainsModel" 13 "CapabilityDomainsModel" "made" "I") = true := cd_tw 646 (by decide +kernel) (by decide +kernel)
theorem lk_Mo_16 : (.fieldLink "CapabilityDomainsModel" 16 "CapabilityDomainsModel" "code" "I" : Cond) ∈ lw_tbl ∧ cd_gw (.fieldLink "CapabilityDomainsModel" 16 "CapabilityDomainsModel" "code" "I") = true := cd_tw 647 (by decide +kernel) (by decide +kernel)
theorem lk_Mo_19 : (.fieldLink "CapabilityDomainsModel" 19 "CapabilityDomainsModel" "ended" "[Z" : Cond) ∈ lw_tbl ∧ cd_gw (.fieldLink "CapabilityDomainsModel" 19 "CapabilityDomainsModel" "ended" "[Z") = true := cd_tw 648 (by decide +kernel) (by decide +kernel)
theorem lk_Mo_23 : (.fieldLink "CapabilityDomainsModel" 23 "CapabilityDomainsModel" "there" "[Z" : Cond) ∈ lw_tbl ∧ cd_gw (.fieldLink "CapabilityDomainsModel" 23 "CapabilityDomainsModel" "there" "[Z") = true := cd_tw 649 (by decide +kernel) (by decide +kernel)
theorem lk_Mo_26 : (.fieldLink "CapabilityDomainsModel" 26 "CapabilityDomainsModel" "sort" "[I" : Cond) ∈ lw_tbl ∧ cd_gw (.fieldLink "CapabilityDomainsModel" 26 "CapabilityDomainsModel" "sort" "[I") = true := cd_tw 650 (by decide +kernel) (by decide +kernel)
theorem lk_Mo_30 : (.fieldLink "CapabilityDomainsModel" 30 "CapabilityDomainsModel" "value" "[I" : Cond) ∈ lw_tbl ∧ cd_gw (.fieldLink "CapabilityDomainsModel" 30 "CapabilityDomainsModel" "value" "[I") = true := cd_tw 651 (by decide +kernel) (by decide +kernel)
theorem lk_Mo_33 : (.fieldLink "CapabilityDomainsModel" 33 "CapabilityDomainsModel" "slot" "[I" : Cond) ∈ lw_tbl ∧ cd_gw (.fieldLink "CapabilityDomainsModel" 33 "CapabilityDomainsModel" "slot" "[I") = true := cd_tw 652 (by decide +kernel) (by decide +kernel)
theorem lk_Mo_36 : (.fieldLink "CapabilityDomainsModel" 36 "CapabilityDomainsModel" "target" "[I" : Cond) ∈ lw_tbl ∧ cd_gw (.fieldLink "CapabilityDomainsModel" 36 "CapabilityDomainsModel" "target" "[I") = true := cd_tw 653 (by decide +kernel) (by decide +kernel)
theorem lk_Mo_39 : (.fieldLink "CapabilityDomainsModel" 39 "CapabilityDomainsModel" "rights" "[I" : Cond) ∈ lw_tbl ∧ cd_gw (.fieldLink "CapabilityDomainsModel" 39 "CapabilityDomainsModel" "rights" "[I") = true := cd_tw 654 (by decide +kernel) (by decide +kernel)
theorem lk_Mo_42 : (.fieldLink "CapabilityDomainsModel" 42 "CapabilityDomainsModel" "uses" "[I" : Cond) ∈ lw_tbl ∧ cd_gw (.fieldLink "CapabilityDomainsModel" 42 "CapabilityDomainsModel" "uses" "[I") = true := cd_tw 655 (by decide +kernel) (by decide +kernel)
theorem lk_Mo_45 : (.fieldLink "CapabilityDomainsModel" 45 "CapabilityDomainsModel" "parent" "[I" : Cond) ∈ lw_tbl ∧ cd_gw (.fieldLink "CapabilityDomainsModel" 45 "CapabilityDomainsModel" "parent" "[I") = true := cd_tw 656 (by decide +kernel) (by decide +kernel)
theorem lk_Mo_48 : (.fieldLink "CapabilityDomainsModel" 48 "CapabilityDomainsModel" "gone" "[Z" : Cond) ∈ lw_tbl ∧ cd_gw (.fieldLink "CapabilityDomainsModel" 48 "CapabilityDomainsModel" "gone" "[Z") = true := cd_tw 657 (by decide +kernel) (by decide +kernel)
theorem lk_Mo_51 : (.fieldLink "CapabilityDomainsModel" 51 "CapabilityDomainsModel" "found" "[I" : Cond) ∈ lw_tbl ∧ cd_gw (.fieldLink "CapabilityDomainsModel" 51 "CapabilityDomainsModel" "found" "[I") = true := cd_tw 658 (by decide +kernel) (by decide +kernel)
theorem lk_Mo_54 : (.fieldLink "CapabilityDomainsModel" 54 "CapabilityDomainsModel" "copyOf" "[I" : Cond) ∈ lw_tbl ∧ cd_gw (.fieldLink "CapabilityDomainsModel" 54 "CapabilityDomainsModel" "copyOf" "[I") = true := cd_tw 659 (by decide +kernel) (by decide +kernel)
theorem lk_Mo_57 : (.fieldLink "CapabilityDomainsModel" 57 "CapabilityDomainsModel" "under" "[I" : Cond) ∈ lw_tbl ∧ cd_gw (.fieldLink "CapabilityDomainsModel" 57 "CapabilityDomainsModel" "under" "[I") = true := cd_tw 660 (by decide +kernel) (by decide +kernel)
theorem lk_Mo_60 : (.fieldLink "CapabilityDomainsModel" 60 "CapabilityDomainsModel" "next" "[I" : Cond) ∈ lw_tbl ∧ cd_gw (.fieldLink "CapabilityDomainsModel" 60 "CapabilityDomainsModel" "next" "[I") = true := cd_tw 661 (by decide +kernel) (by decide +kernel)
theorem lk_Mo_63 : (.fieldLink "CapabilityDomainsModel" 63 "CapabilityDomainsModel" "copies" "I" : Cond) ∈ lw_tbl ∧ cd_gw (.fieldLink "CapabilityDomainsModel" 63 "CapabilityDomainsModel" "copies" "I") = true := cd_tw 662 (by decide +kernel) (by decide +kernel)
theorem ml_La_82 : (.methodLink "CapabilityDomainsLaw" 82 ⟨"CapabilityDomainsModel", "thrown", "()I"⟩ : Cond) ∈ lw_tbl ∧ cd_gw (.methodLink "CapabilityDomainsLaw" 82 ⟨"CapabilityDomainsModel", "thrown", "()I"⟩) = true := cd_tw 700 (by decide +kernel) (by decide +kernel)
theorem im_Mo_thrown : (.instanceMethod ⟨"CapabilityDomainsModel", "thrown", "()I"⟩ : Cond) ∈ lw_tbl ∧ cd_gw (.instanceMethod ⟨"CapabilityDomainsModel", "thrown", "()I"⟩) = true := cd_tw 701 (by decide +kernel) (by decide +kernel)
theorem se_Mo_thrown : (.selects "CapabilityDomainsModel" ⟨"CapabilityDomainsModel", "thrown", "()I"⟩ ⟨"CapabilityDomainsModel", "thrown", "()I"⟩ : Cond) ∈ lw_tbl ∧ cd_gw (.selects "CapabilityDomainsModel" ⟨"CapabilityDomainsModel", "thrown", "()I"⟩ ⟨"CapabilityDomainsModel", "thrown", "()I"⟩) = true := cd_tw 702 (by decide +kernel) (by decide +kernel)
theorem cw_Mo_thrown : (.code ⟨"CapabilityDomainsModel", "thrown", "()I"⟩ prog_8_method_2_code 1 (some .int) : Cond) ∈ lw_tbl ∧ cd_gw (.code ⟨"CapabilityDomainsModel", "thrown", "()I"⟩ prog_8_method_2_code 1 (some .int)) = true := cd_tw 703 (by decide +kernel) (by decide +kernel)
theorem ml_La_81 : (.methodLink "CapabilityDomainsLaw" 81 ⟨"CapabilityDomainsModel", "domain", "()I"⟩ : Cond) ∈ lw_tbl ∧ cd_gw (.methodLink "CapabilityDomainsLaw" 81 ⟨"CapabilityDomainsModel", "domain", "()I"⟩) = true := cd_tw 704 (by decide +kernel) (by decide +kernel)
theorem im_Mo_domain : (.instanceMethod ⟨"CapabilityDomainsModel", "domain", "()I"⟩ : Cond) ∈ lw_tbl ∧ cd_gw (.instanceMethod ⟨"CapabilityDomainsModel", "domain", "()I"⟩) = true := cd_tw 705 (by decide +kernel) (by decide +kernel)
theorem se_Mo_domain : (.selects "CapabilityDomainsModel" ⟨"CapabilityDomainsModel", "domain", "()I"⟩ ⟨"CapabilityDomainsModel", "domain", "()I"⟩ : Cond) ∈ lw_tbl ∧ cd_gw (.selects "CapabilityDomainsModel" ⟨"CapabilityDomainsModel", "domain", "()I"⟩ ⟨"CapabilityDomainsModel", "domain", "()I"⟩) = true := cd_tw 706 (by decide +kernel) (by decide +kernel)
theorem cw_Mo_domain : (.code ⟨"CapabilityDomainsModel", "domain", "()I"⟩ prog_8_method_15_code 1 (some .int) : Cond) ∈ lw_tbl ∧ cd_gw (.code ⟨"CapabilityDomainsModel", "domain", "()I"⟩ prog_8_method_15_code 1 (some .int)) = true := cd_tw 707 (by decide +kernel) (by decide +kernel)
theorem ml_Mo_84 : (.methodLink "CapabilityDomainsModel" 84 ⟨"CapabilityDomainsModel", "fail", "(I)I"⟩ : Cond) ∈ lw_tbl ∧ cd_gw (.methodLink "CapabilityDomainsModel" 84 ⟨"CapabilityDomainsModel", "fail", "(I)I"⟩) = true := cd_tw 708 (by decide +kernel) (by decide +kernel)
theorem im_Mo_fail : (.instanceMethod ⟨"CapabilityDomainsModel", "fail", "(I)I"⟩ : Cond) ∈ lw_tbl ∧ cd_gw (.instanceMethod ⟨"CapabilityDomainsModel", "fail", "(I)I"⟩) = true := cd_tw 710 (by decide +kernel) (by decide +kernel)
theorem cw_Mo_fail : (.code ⟨"CapabilityDomainsModel", "fail", "(I)I"⟩ prog_8_method_3_code 2 (some .int) : Cond) ∈ lw_tbl ∧ cd_gw (.code ⟨"CapabilityDomainsModel", "fail", "(I)I"⟩ prog_8_method_3_code 2 (some .int)) = true := cd_tw 711 (by decide +kernel) (by decide +kernel)
theorem ml_Mo_87 : (.methodLink "CapabilityDomainsModel" 87 ⟨"CapabilityDomainsModel", "fine", "(I)I"⟩ : Cond) ∈ lw_tbl ∧ cd_gw (.methodLink "CapabilityDomainsModel" 87 ⟨"CapabilityDomainsModel", "fine", "(I)I"⟩) = true := cd_tw 712 (by decide +kernel) (by decide +kernel)
theorem im_Mo_fine : (.instanceMethod ⟨"CapabilityDomainsModel", "fine", "(I)I"⟩ : Cond) ∈ lw_tbl ∧ cd_gw (.instanceMethod ⟨"CapabilityDomainsModel", "fine", "(I)I"⟩) = true := cd_tw 714 (by decide +kernel) (by decide +kernel)
theorem cw_Mo_fine : (.code ⟨"CapabilityDomainsModel", "fine", "(I)I"⟩ prog_8_method_4_code 2 (some .int) : Cond) ∈ lw_tbl ∧ cd_gw (.code ⟨"CapabilityDomainsModel", "fine", "(I)I"⟩ prog_8_method_4_code 2 (some .int)) = true := cd_tw 715 (by decide +kernel) (by decide +kernel)
theorem ml_La_88 : (.methodLink "CapabilityDomainsLaw" 88 ⟨"CapabilityDomainsModel", "object", "(I)I"⟩ : Cond) ∈ lw_tbl ∧ cd_gw (.methodLink "CapabilityDomainsLaw" 88 ⟨"CapabilityDomainsModel", "object", "(I)I"⟩) = true := cd_tw 716 (by decide +kernel) (by decide +kernel)
theorem im_Mo_object : (.instanceMethod ⟨"CapabilityDomainsModel", "object", "(I)I"⟩ : Cond) ∈ lw_tbl ∧ cd_gw (.instanceMethod ⟨"CapabilityDomainsModel", "object", "(I)I"⟩) = true := cd_tw 717 (by decide +kernel) (by decide +kernel)
theorem se_Mo_object : (.selects "CapabilityDomainsModel" ⟨"CapabilityDomainsModel", "object", "(I)I"⟩ ⟨"CapabilityDomainsModel", "object", "(I)I"⟩ : Cond) ∈ lw_tbl ∧ cd_gw (.selects "CapabilityDomainsModel" ⟨"CapabilityDomainsModel", "object", "(I)I"⟩ ⟨"CapabilityDomainsModel", "object", "(I)I"⟩) = true := cd_tw 718 (by decide +kernel) (by decide +kernel)
theorem cw_Mo_object : (.code ⟨"CapabilityDomainsModel", "object", "(I)I"⟩ prog_8_method_18_code 2 (some .int) : Cond) ∈ lw_tbl ∧ cd_gw (.code ⟨"CapabilityDomainsModel", "object", "(I)I"⟩ prog_8_method_18_code 2 (some .int)) = true := cd_tw 719 (by decide +kernel) (by decide +kernel)
theorem ml_Mo_78 : (.methodLink "CapabilityDomainsModel" 78 ⟨"CapabilityDomainsModel", "noDomain", "(I)Z"⟩ : Cond) ∈ lw_tbl ∧ cd_gw (.methodLink "CapabilityDomainsModel" 78 ⟨"CapabilityDomainsModel", "noDomain", "(I)Z"⟩) = true := cd_tw 720 (by decide +kernel) (by decide +kernel)
theorem im_Mo_noDomain : (.instanceMethod ⟨"CapabilityDomainsModel", "noDomain", "(I)Z"⟩ : Cond) ∈ lw_tbl ∧ cd_gw (.instanceMethod ⟨"CapabilityDomainsModel", "noDomain", "(I)Z"⟩) = true := cd_tw 722 (by decide +kernel) (by decide +kernel)
theorem cw_Mo_noDomain : (.code ⟨"CapabilityDomainsModel", "noDomain", "(I)Z"⟩ prog_8_method_5_code 2 (some .boolean) : Cond) ∈ lw_tbl ∧ cd_gw (.code ⟨"CapabilityDomainsModel", "noDomain", "(I)Z"⟩ prog_8_method_5_code 2 (some .boolean)) = true := cd_tw 723 (by decide +kernel) (by decide +kernel)
theorem ml_Mo_94 : (.methodLink "CapabilityDomainsModel" 94 ⟨"CapabilityDomainsModel", "objects", "(I)I"⟩ : Cond) ∈ lw_tbl ∧ cd_gw (.methodLink "CapabilityDomainsModel" 94 ⟨"CapabilityDomainsModel", "objects", "(I)I"⟩) = true := cd_tw 724 (by decide +kernel) (by decide +kernel)
theorem im_Mo_objects : (.instanceMethod ⟨"CapabilityDomainsModel", "objects", "(I)I"⟩ : Cond) ∈ lw_tbl ∧ cd_gw (.instanceMethod ⟨"CapabilityDomainsModel", "objects", "(I)I"⟩) = true := cd_tw 726 (by decide +kernel) (by decide +kernel)
theorem cw_Mo_objects : (.code ⟨"CapabilityDomainsModel", "objects", "(I)I"⟩ prog_8_method_16_code 4 (some .int) : Cond) ∈ lw_tbl ∧ cd_gw (.code ⟨"CapabilityDomainsModel", "objects", "(I)I"⟩ prog_8_method_16_code 4 (some .int)) = true := cd_tw 727 (by decide +kernel) (by decide +kernel)
theorem ml_Mo_97 : (.methodLink "CapabilityDomainsModel" 97 ⟨"CapabilityDomainsModel", "newObject", "(I)I"⟩ : Cond) ∈ lw_tbl ∧ cd_gw (.methodLink "CapabilityDomainsModel" 97 ⟨"CapabilityDomainsModel", "newObject", "(I)I"⟩) = true := cd_tw 728 (by decide +kernel) (by decide +kernel)
theorem im_Mo_newObject : (.instanceMethod ⟨"CapabilityDomainsModel", "newObject", "(I)I"⟩ : Cond) ∈ lw_tbl ∧ cd_gw (.instanceMethod ⟨"CapabilityDomainsModel", "newObject", "(I)I"⟩) = true := cd_tw 730 (by decide +kernel) (by decide +kernel)
theorem cw_Mo_newObject : (.code ⟨"CapabilityDomainsModel", "newObject", "(I)I"⟩ prog_8_method_17_code 4 (some .int) : Cond) ∈ lw_tbl ∧ cd_gw (.code ⟨"CapabilityDomainsModel", "newObject", "(I)I"⟩ prog_8_method_17_code 4 (some .int)) = true := cd_tw 731 (by decide +kernel) (by decide +kernel)
theorem ml_Mo_90 : (.methodLink "CapabilityDomainsModel" 90 ⟨"CapabilityDomainsModel", "put", "(III)V"⟩ : Cond) ∈ lw_tbl ∧ cd_gw (.methodLink "CapabilityDomainsModel" 90 ⟨"CapabilityDomainsModel", "put", "(III)V"⟩) = true := cd_tw 732 (by decide +kernel) (by decide +kernel)
theorem im_Mo_put : (.instanceMethod ⟨"CapabilityDomainsModel", "put", "(III)V"⟩ : Cond) ∈ lw_tbl ∧ cd_gw (.instanceMethod ⟨"CapabilityDomainsModel", "put", "(III)V"⟩) = true := cd_tw 734 (by decide +kernel) (by decide +kernel)
theorem cw_Mo_put : (.code ⟨"CapabilityDomainsModel", "put", "(III)V"⟩ prog_8_method_14_code 4 none : Cond) ∈ lw_tbl ∧ cd_gw (.code ⟨"CapabilityDomainsModel", "put", "(III)V"⟩ prog_8_method_14_code 4 none) = true := cd_tw 735 (by decide +kernel) (by decide +kernel)
theorem ml_La_92 : (.methodLink "CapabilityDomainsLaw" 92 ⟨"CapabilityDomainsModel", "set", "(IIII)I"⟩ : Cond) ∈ lw_tbl ∧ cd_gw (.methodLink "CapabilityDomainsLaw" 92 ⟨"CapabilityDomainsModel", "set", "(IIII)I"⟩) = true := cd_tw 736 (by decide +kernel) (by decide +kernel)
theorem im_Mo_set : (.instanceMethod ⟨"CapabilityDomainsModel", "set", "(IIII)I"⟩ : Cond) ∈ lw_tbl ∧ cd_gw (.instanceMethod ⟨"CapabilityDomainsModel", "set", "(IIII)I"⟩) = true := cd_tw 737 (by decide +kernel) (by decide +kernel)
theorem se_Mo_set : (.selects "CapabilityDomainsModel" ⟨"CapabilityDomainsModel", "set", "(IIII)I"⟩ ⟨"CapabilityDomainsModel", "set", "(IIII)I"⟩ : Cond) ∈ lw_tbl ∧ cd_gw (.selects "CapabilityDomainsModel" ⟨"CapabilityDomainsModel", "set", "(IIII)I"⟩ ⟨"CapabilityDomainsModel", "set", "(IIII)I"⟩) = true := cd_tw 738 (by decide +kernel) (by decide +kernel)
theorem cw_Mo_set : (.code ⟨"CapabilityDomainsModel", "set", "(IIII)I"⟩ prog_8_method_19_code 7 (some .int) : Cond) ∈ lw_tbl ∧ cd_gw (.code ⟨"CapabilityDomainsModel", "set", "(IIII)I"⟩ prog_8_method_19_code 7 (some .int)) = true := cd_tw 739 (by decide +kernel) (by decide +kernel)
theorem ml_Mo_100 : (.methodLink "CapabilityDomainsModel" 100 ⟨"CapabilityDomainsModel", "none", "(II)Z"⟩ : Cond) ∈ lw_tbl ∧ cd_gw (.methodLink "CapabilityDomainsModel" 100 ⟨"CapabilityDomainsModel", "none", "(II)Z"⟩) = true := cd_tw 740 (by decide +kernel) (by decide +kernel)
theorem im_Mo_none : (.instanceMethod ⟨"CapabilityDomainsModel", "none", "(II)Z"⟩ : Cond) ∈ lw_tbl ∧ cd_gw (.instanceMethod ⟨"CapabilityDomainsModel", "none", "(II)Z"⟩) = true := cd_tw 742 (by decide +kernel) (by decide +kernel)
theorem cw_Mo_none : (.code ⟨"CapabilityDomainsModel", "none", "(II)Z"⟩ prog_8_method_7_code 3 (some .boolean) : Cond) ∈ lw_tbl ∧ cd_gw (.code ⟨"CapabilityDomainsModel", "none", "(II)Z"⟩ prog_8_method_7_code 3 (some .boolean)) = true := cd_tw 743 (by decide +kernel) (by decide +kernel)
theorem ml_Mo_66 : (.methodLink "CapabilityDomainsModel" 66 ⟨"CapabilityDomainsModel", "out", "(II)Z"⟩ : Cond) ∈ lw_tbl ∧ cd_gw (.methodLink "CapabilityDomainsModel" 66 ⟨"CapabilityDomainsModel", "out", "(II)Z"⟩) = true := cd_tw 744 (by decide +kernel) (by decide +kernel)
theorem im_Mo_out : (.instanceMethod ⟨"CapabilityDomainsModel", "out", "(II)Z"⟩ : Cond) ∈ lw_tbl ∧ cd_gw (.instanceMethod ⟨"CapabilityDomainsModel", "out", "(II)Z"⟩) = true := cd_tw 746 (by decide +kernel) (by decide +kernel)
theorem cw_Mo_out : (.code ⟨"CapabilityDomainsModel", "out", "(II)Z"⟩ prog_8_method_6_code 3 (some .boolean) : Cond) ∈ lw_tbl ∧ cd_gw (.code ⟨"CapabilityDomainsModel", "out", "(II)Z"⟩ prog_8_method_6_code 3 (some .boolean)) = true := cd_tw 747 (by decide +kernel) (by decide +kernel)
theorem ml_La_95 : (.methodLink "CapabilityDomainsLaw" 95 ⟨"CapabilityDomainsModel", "link", "(IIII)I"⟩ : Cond) ∈ lw_tbl ∧ cd_gw (.methodLink "CapabilityDomainsLaw" 95 ⟨"CapabilityDomainsModel", "link", "(IIII)I"⟩) = true := cd_tw 748 (by decide +kernel) (by decide +kernel)
theorem im_Mo_link : (.instanceMethod ⟨"CapabilityDomainsModel", "link", "(IIII)I"⟩ : Cond) ∈ lw_tbl ∧ cd_gw (.instanceMethod ⟨"CapabilityDomainsModel", "link", "(IIII)I"⟩) = true := cd_tw 749 (by decide +kernel) (by decide +kernel)
theorem se_Mo_link : (.selects "CapabilityDomainsModel" ⟨"CapabilityDomainsModel", "link", "(IIII)I"⟩ ⟨"CapabilityDomainsModel", "link", "(IIII)I"⟩ : Cond) ∈ lw_tbl ∧ cd_gw (.selects "CapabilityDomainsModel" ⟨"CapabilityDomainsModel", "link", "(IIII)I"⟩ ⟨"CapabilityDomainsModel", "link", "(IIII)I"⟩) = true := cd_tw 750 (by decide +kernel) (by decide +kernel)
theorem cw_Mo_link : (.code ⟨"CapabilityDomainsModel", "link", "(IIII)I"⟩ prog_8_method_20_code 5 (some .int) : Cond) ∈ lw_tbl ∧ cd_gw (.code ⟨"CapabilityDomainsModel", "link", "(IIII)I"⟩ prog_8_method_20_code 5 (some .int)) = true := cd_tw 751 (by decide +kernel) (by decide +kernel)
theorem ml_La_98 : (.methodLink "CapabilityDomainsLaw" 98 ⟨"CapabilityDomainsModel", "hold", "(IIII)I"⟩ : Cond) ∈ lw_tbl ∧ cd_gw (.methodLink "CapabilityDomainsLaw" 98 ⟨"CapabilityDomainsModel", "hold", "(IIII)I"⟩) = true := cd_tw 752 (by decide +kernel) (by decide +kernel)
theorem im_Mo_hold : (.instanceMethod ⟨"CapabilityDomainsModel", "hold", "(IIII)I"⟩ : Cond) ∈ lw_tbl ∧ cd_gw (.instanceMethod ⟨"CapabilityDomainsModel", "hold", "(IIII)I"⟩) = true := cd_tw 753 (by decide +kernel) (by decide +kernel)
theorem se_Mo_hold : (.selects "CapabilityDomainsModel" ⟨"CapabilityDomainsModel", "hold", "(IIII)I"⟩ ⟨"CapabilityDomainsModel", "hold", "(IIII)I"⟩ : Cond) ∈ lw_tbl ∧ cd_gw (.selects "CapabilityDomainsModel" ⟨"CapabilityDomainsModel", "hold", "(IIII)I"⟩ ⟨"CapabilityDomainsModel", "hold", "(IIII)I"⟩) = true := cd_tw 754 (by decide +kernel) (by decide +kernel)
theorem cw_Mo_hold : (.code ⟨"CapabilityDomainsModel", "hold", "(IIII)I"⟩ prog_8_method_21_code 5 (some .int) : Cond) ∈ lw_tbl ∧ cd_gw (.code ⟨"CapabilityDomainsModel", "hold", "(IIII)I"⟩ prog_8_method_21_code 5 (some .int)) = true := cd_tw 755 (by decide +kernel) (by decide +kernel)
theorem ml_La_102 : (.methodLink "CapabilityDomainsLaw" 102 ⟨"CapabilityDomainsModel", "export", "(IIIII)I"⟩ : Cond) ∈ lw_tbl ∧ cd_gw (.methodLink "CapabilityDomainsLaw" 102 ⟨"CapabilityDomainsModel", "export", "(IIIII)I"⟩) = true := cd_tw 756 (by decide +kernel) (by decide +kernel)
theorem im_Mo_export : (.instanceMethod ⟨"CapabilityDomainsModel", "export", "(IIIII)I"⟩ : Cond) ∈ lw_tbl ∧ cd_gw (.instanceMethod ⟨"CapabilityDomainsModel", "export", "(IIIII)I"⟩) = true := cd_tw 757 (by decide +kernel) (by decide +kernel)
theorem se_Mo_export : (.selects "CapabilityDomainsModel" ⟨"CapabilityDomainsModel", "export", "(IIIII)I"⟩ ⟨"CapabilityDomainsModel", "export", "(IIIII)I"⟩ : Cond) ∈ lw_tbl ∧ cd_gw (.selects "CapabilityDomainsModel" ⟨"CapabilityDomainsModel", "export", "(IIIII)I"⟩ ⟨"CapabilityDomainsModel", "export", "(IIIII)I"⟩) = true := cd_tw 758 (by decide +kernel) (by decide +kernel)
theorem cw_Mo_export : (.code ⟨"CapabilityDomainsModel", "export", "(IIIII)I"⟩ prog_8_method_23_code 6 (some .int) : Cond) ∈ lw_tbl ∧ cd_gw (.code ⟨"CapabilityDomainsModel", "export", "(IIIII)I"⟩ prog_8_method_23_code 6 (some .int)) = true := cd_tw 759 (by decide +kernel) (by decide +kernel)
theorem ml_Mo_103 : (.methodLink "CapabilityDomainsModel" 103 ⟨"CapabilityDomainsModel", "capability", "(IIII)I"⟩ : Cond) ∈ lw_tbl ∧ cd_gw (.methodLink "CapabilityDomainsModel" 103 ⟨"CapabilityDomainsModel", "capability", "(IIII)I"⟩) = true := cd_tw 760 (by decide +kernel) (by decide +kernel)
theorem im_Mo_capability : (.instanceMethod ⟨"CapabilityDomainsModel", "capability", "(IIII)I"⟩ : Cond) ∈ lw_tbl ∧ cd_gw (.instanceMethod ⟨"CapabilityDomainsModel", "capability", "(IIII)I"⟩) = true := cd_tw 762 (by decide +kernel) (by decide +kernel)
theorem cw_Mo_capability : (.code ⟨"CapabilityDomainsModel", "capability", "(IIII)I"⟩ prog_8_method_22_code 5 (some .int) : Cond) ∈ lw_tbl ∧ cd_gw (.code ⟨"CapabilityDomainsModel", "capability", "(IIII)I"⟩ prog_8_method_22_code 5 (some .int)) = true := cd_tw 763 (by decide +kernel) (by decide +kernel)
theorem ml_La_105 : (.methodLink "CapabilityDomainsLaw" 105 ⟨"CapabilityDomainsModel", "narrow", "(IIII)I"⟩ : Cond) ∈ lw_tbl ∧ cd_gw (.methodLink "CapabilityDomainsLaw" 105 ⟨"CapabilityDomainsModel", "narrow", "(IIII)I"⟩) = true := cd_tw 764 (by decide +kernel) (by decide +kernel)
theorem im_Mo_narrow : (.instanceMethod ⟨"CapabilityDomainsModel", "narrow", "(IIII)I"⟩ : Cond) ∈ lw_tbl ∧ cd_gw (.instanceMethod ⟨"CapabilityDomainsModel", "narrow", "(IIII)I"⟩) = true := cd_tw 765 (by decide +kernel) (by decide +kernel)
theorem se_Mo_narrow : (.selects "CapabilityDomainsModel" ⟨"CapabilityDomainsModel", "narrow", "(IIII)I"⟩ ⟨"CapabilityDomainsModel", "narrow", "(IIII)I"⟩ : Cond) ∈ lw_tbl ∧ cd_gw (.selects "CapabilityDomainsModel" ⟨"CapabilityDomainsModel", "narrow", "(IIII)I"⟩ ⟨"CapabilityDomainsModel", "narrow", "(IIII)I"⟩) = true := cd_tw 766 (by decide +kernel) (by decide +kernel)
theorem cw_Mo_narrow : (.code ⟨"CapabilityDomainsModel", "narrow", "(IIII)I"⟩ prog_8_method_24_code 6 (some .int) : Cond) ∈ lw_tbl ∧ cd_gw (.code ⟨"CapabilityDomainsModel", "narrow", "(IIII)I"⟩ prog_8_method_24_code 6 (some .int)) = true := cd_tw 767 (by decide +kernel) (by decide +kernel)
theorem ml_Mo_74 : (.methodLink "CapabilityDomainsModel" 74 ⟨"CapabilityDomainsModel", "dead", "(I)Z"⟩ : Cond) ∈ lw_tbl ∧ cd_gw (.methodLink "CapabilityDomainsModel" 74 ⟨"CapabilityDomainsModel", "dead", "(I)Z"⟩) = true := cd_tw 768 (by decide +kernel) (by decide +kernel)
theorem im_Mo_dead : (.instanceMethod ⟨"CapabilityDomainsModel", "dead", "(I)Z"⟩ : Cond) ∈ lw_tbl ∧ cd_gw (.instanceMethod ⟨"CapabilityDomainsModel", "dead", "(I)Z"⟩) = true := cd_tw 770 (by decide +kernel) (by decide +kernel)
theorem cw_Mo_dead : (.code ⟨"CapabilityDomainsModel", "dead", "(I)Z"⟩ prog_8_method_9_code 4 (some .boolean) : Cond) ∈ lw_tbl ∧ cd_gw (.code ⟨"CapabilityDomainsModel", "dead", "(I)Z"⟩ prog_8_method_9_code 4 (some .boolean)) = true := cd_tw 771 (by decide +kernel) (by decide +kernel)
theorem ml_Mo_70 : (.methodLink "CapabilityDomainsModel" 70 ⟨"CapabilityDomainsModel", "home", "(I)I"⟩ : Cond) ∈ lw_tbl ∧ cd_gw (.methodLink "CapabilityDomainsModel" 70 ⟨"CapabilityDomainsModel", "home", "(I)I"⟩) = true := cd_tw 772 (by decide +kernel) (by decide +kernel)
theorem im_Mo_home : (.instanceMethod ⟨"CapabilityDomainsModel", "home", "(I)I"⟩ : Cond) ∈ lw_tbl ∧ cd_gw (.instanceMethod ⟨"CapabilityDomainsModel", "home", "(I)I"⟩) = true := cd_tw 774 (by decide +kernel) (by decide +kernel)
theorem cw_Mo_home : (.code ⟨"CapabilityDomainsModel", "home", "(I)I"⟩ prog_8_method_8_code 2 (some .int) : Cond) ∈ lw_tbl ∧ cd_gw (.code ⟨"CapabilityDomainsModel", "home", "(I)I"⟩ prog_8_method_8_code 2 (some .int)) = true := cd_tw 775 (by decide +kernel) (by decide +kernel)
theorem ml_La_108 : (.methodLink "CapabilityDomainsLaw" 108 ⟨"CapabilityDomainsModel", "give", "(IIII)I"⟩ : Cond) ∈ lw_tbl ∧ cd_gw (.methodLink "CapabilityDomainsLaw" 108 ⟨"CapabilityDomainsModel", "give", "(IIII)I"⟩) = true := cd_tw 776 (by decide +kernel) (by decide +kernel)
theorem im_Mo_give : (.instanceMethod ⟨"CapabilityDomainsModel", "give", "(IIII)I"⟩ : Cond) ∈ lw_tbl ∧ cd_gw (.instanceMethod ⟨"CapabilityDomainsModel", "give", "(IIII)I"⟩) = true := cd_tw 777 (by decide +kernel) (by decide +kernel)
theorem se_Mo_give : (.selects "CapabilityDomainsModel" ⟨"CapabilityDomainsModel", "give", "(IIII)I"⟩ ⟨"CapabilityDomainsModel", "give", "(IIII)I"⟩ : Cond) ∈ lw_tbl ∧ cd_gw (.selects "CapabilityDomainsModel" ⟨"CapabilityDomainsModel", "give", "(IIII)I"⟩ ⟨"CapabilityDomainsModel", "give", "(IIII)I"⟩) = true := cd_tw 778 (by decide +kernel) (by decide +kernel)
theorem cw_Mo_give : (.code ⟨"CapabilityDomainsModel", "give", "(IIII)I"⟩ prog_8_method_25_code 6 (some .int) : Cond) ∈ lw_tbl ∧ cd_gw (.code ⟨"CapabilityDomainsModel", "give", "(IIII)I"⟩ prog_8_method_25_code 6 (some .int)) = true := cd_tw 779 (by decide +kernel) (by decide +kernel)
theorem ml_La_112 : (.methodLink "CapabilityDomainsLaw" 112 ⟨"CapabilityDomainsModel", "revoke", "(II)I"⟩ : Cond) ∈ lw_tbl ∧ cd_gw (.methodLink "CapabilityDomainsLaw" 112 ⟨"CapabilityDomainsModel", "revoke", "(II)I"⟩) = true := cd_tw 780 (by decide +kernel) (by decide +kernel)
theorem im_Mo_revoke : (.instanceMethod ⟨"CapabilityDomainsModel", "revoke", "(II)I"⟩ : Cond) ∈ lw_tbl ∧ cd_gw (.instanceMethod ⟨"CapabilityDomainsModel", "revoke", "(II)I"⟩) = true := cd_tw 781 (by decide +kernel) (by decide +kernel)
theorem se_Mo_revoke : (.selects "CapabilityDomainsModel" ⟨"CapabilityDomainsModel", "revoke", "(II)I"⟩ ⟨"CapabilityDomainsModel", "revoke", "(II)I"⟩ : Cond) ∈ lw_tbl ∧ cd_gw (.selects "CapabilityDomainsModel" ⟨"CapabilityDomainsModel", "revoke", "(II)I"⟩ ⟨"CapabilityDomainsModel", "revoke", "(II)I"⟩) = true := cd_tw 782 (by decide +kernel) (by decide +kernel)
theorem cw_Mo_revoke : (.code ⟨"CapabilityDomainsModel", "revoke", "(II)I"⟩ prog_8_method_26_code 5 (some .int) : Cond) ∈ lw_tbl ∧ cd_gw (.code ⟨"CapabilityDomainsModel", "revoke", "(II)I"⟩ prog_8_method_26_code 5 (some .int)) = true := cd_tw 783 (by decide +kernel) (by decide +kernel)
theorem ml_Mo_107 : (.methodLink "CapabilityDomainsModel" 107 ⟨"CapabilityDomainsModel", "alive", "()I"⟩ : Cond) ∈ lw_tbl ∧ cd_gw (.methodLink "CapabilityDomainsModel" 107 ⟨"CapabilityDomainsModel", "alive", "()I"⟩) = true := cd_tw 784 (by decide +kernel) (by decide +kernel)
theorem im_Mo_alive : (.instanceMethod ⟨"CapabilityDomainsModel", "alive", "()I"⟩ : Cond) ∈ lw_tbl ∧ cd_gw (.instanceMethod ⟨"CapabilityDomainsModel", "alive", "()I"⟩) = true := cd_tw 786 (by decide +kernel) (by decide +kernel)
theorem cw_Mo_alive : (.code ⟨"CapabilityDomainsModel", "alive", "()I"⟩ prog_8_method_11_code 3 (some .int) : Cond) ∈ lw_tbl ∧ cd_gw (.code ⟨"CapabilityDomainsModel", "alive", "()I"⟩ prog_8_method_11_code 3 (some .int)) = true := cd_tw 787 (by decide +kernel) (by decide +kernel)
theorem ml_La_116 : (.methodLink "CapabilityDomainsLaw" 116 ⟨"CapabilityDomainsModel", "read", "(III)I"⟩ : Cond) ∈ lw_tbl ∧ cd_gw (.methodLink "CapabilityDomainsLaw" 116 ⟨"CapabilityDomainsModel", "read", "(III)I"⟩) = true := cd_tw 788 (by decide +kernel) (by decide +kernel)
theorem im_Mo_read : (.instanceMethod ⟨"CapabilityDomainsModel", "read", "(III)I"⟩ : Cond) ∈ lw_tbl ∧ cd_gw (.instanceMethod ⟨"CapabilityDomainsModel", "read", "(III)I"⟩) = true := cd_tw 789 (by decide +kernel) (by decide +kernel)
theorem se_Mo_read : (.selects "CapabilityDomainsModel" ⟨"CapabilityDomainsModel", "read", "(III)I"⟩ ⟨"CapabilityDomainsModel", "read", "(III)I"⟩ : Cond) ∈ lw_tbl ∧ cd_gw (.selects "CapabilityDomainsModel" ⟨"CapabilityDomainsModel", "read", "(III)I"⟩ ⟨"CapabilityDomainsModel", "read", "(III)I"⟩) = true := cd_tw 790 (by decide +kernel) (by decide +kernel)
theorem cw_Mo_read : (.code ⟨"CapabilityDomainsModel", "read", "(III)I"⟩ prog_8_method_27_code 7 (some .int) : Cond) ∈ lw_tbl ∧ cd_gw (.code ⟨"CapabilityDomainsModel", "read", "(III)I"⟩ prog_8_method_27_code 7 (some .int)) = true := cd_tw 791 (by decide +kernel) (by decide +kernel)
theorem ml_Mo_111 : (.methodLink "CapabilityDomainsModel" 111 ⟨"CapabilityDomainsModel", "useFails", "(III)I"⟩ : Cond) ∈ lw_tbl ∧ cd_gw (.methodLink "CapabilityDomainsModel" 111 ⟨"CapabilityDomainsModel", "useFails", "(III)I"⟩) = true := cd_tw 792 (by decide +kernel) (by decide +kernel)
theorem im_Mo_useFails : (.instanceMethod ⟨"CapabilityDomainsModel", "useFails", "(III)I"⟩ : Cond) ∈ lw_tbl ∧ cd_gw (.instanceMethod ⟨"CapabilityDomainsModel", "useFails", "(III)I"⟩) = true := cd_tw 794 (by decide +kernel) (by decide +kernel)
theorem cw_Mo_useFails : (.code ⟨"CapabilityDomainsModel", "useFails", "(III)I"⟩ prog_8_method_12_code 5 (some .int) : Cond) ∈ lw_tbl ∧ cd_gw (.code ⟨"CapabilityDomainsModel", "useFails", "(III)I"⟩ prog_8_method_12_code 5 (some .int)) = true := cd_tw 795 (by decide +kernel) (by decide +kernel)
theorem ml_Mo_81 : (.methodLink "CapabilityDomainsModel" 81 ⟨"CapabilityDomainsModel", "usedUp", "(I)Z"⟩ : Cond) ∈ lw_tbl ∧ cd_gw (.methodLink "CapabilityDomainsModel" 81 ⟨"CapabilityDomainsModel", "usedUp", "(I)Z"⟩) = true := cd_tw 796 (by decide +kernel) (by decide +kernel)
theorem im_Mo_usedUp : (.instanceMethod ⟨"CapabilityDomainsModel", "usedUp", "(I)Z"⟩ : Cond) ∈ lw_tbl ∧ cd_gw (.instanceMethod ⟨"CapabilityDomainsModel", "usedUp", "(I)Z"⟩) = true := cd_tw 798 (by decide +kernel) (by decide +kernel)
theorem cw_Mo_usedUp : (.code ⟨"CapabilityDomainsModel", "usedUp", "(I)Z"⟩ prog_8_method_10_code 4 (some .boolean) : Cond) ∈ lw_tbl ∧ cd_gw (.code ⟨"CapabilityDomainsModel", "usedUp", "(I)Z"⟩ prog_8_method_10_code 4 (some .boolean)) = true := cd_tw 799 (by decide +kernel) (by decide +kernel)
theorem ml_Mo_115 : (.methodLink "CapabilityDomainsModel" 115 ⟨"CapabilityDomainsModel", "use", "(I)V"⟩ : Cond) ∈ lw_tbl ∧ cd_gw (.methodLink "CapabilityDomainsModel" 115 ⟨"CapabilityDomainsModel", "use", "(I)V"⟩) = true := cd_tw 800 (by decide +kernel) (by decide +kernel)
theorem im_Mo_use : (.instanceMethod ⟨"CapabilityDomainsModel", "use", "(I)V"⟩ : Cond) ∈ lw_tbl ∧ cd_gw (.instanceMethod ⟨"CapabilityDomainsModel", "use", "(I)V"⟩) = true := cd_tw 802 (by decide +kernel) (by decide +kernel)
theorem cw_Mo_use : (.code ⟨"CapabilityDomainsModel", "use", "(I)V"⟩ prog_8_method_13_code 4 none : Cond) ∈ lw_tbl ∧ cd_gw (.code ⟨"CapabilityDomainsModel", "use", "(I)V"⟩ prog_8_method_13_code 4 none) = true := cd_tw 803 (by decide +kernel) (by decide +kernel)
theorem ml_La_119 : (.methodLink "CapabilityDomainsLaw" 119 ⟨"CapabilityDomainsModel", "write", "(IIII)I"⟩ : Cond) ∈ lw_tbl ∧ cd_gw (.methodLink "CapabilityDomainsLaw" 119 ⟨"CapabilityDomainsModel", "write", "(IIII)I"⟩) = true := cd_tw 804 (by decide +kernel) (by decide +kernel)
theorem im_Mo_write : (.instanceMethod ⟨"CapabilityDomainsModel", "write", "(IIII)I"⟩ : Cond) ∈ lw_tbl ∧ cd_gw (.instanceMethod ⟨"CapabilityDomainsModel", "write", "(IIII)I"⟩) = true := cd_tw 805 (by decide +kernel) (by decide +kernel)
theorem se_Mo_write : (.selects "CapabilityDomainsModel" ⟨"CapabilityDomainsModel", "write", "(IIII)I"⟩ ⟨"CapabilityDomainsModel", "write", "(IIII)I"⟩ : Cond) ∈ lw_tbl ∧ cd_gw (.selects "CapabilityDomainsModel" ⟨"CapabilityDomainsModel", "write", "(IIII)I"⟩ ⟨"CapabilityDomainsModel", "write", "(IIII)I"⟩) = true := cd_tw 806 (by decide +kernel) (by decide +kernel)
theorem cw_Mo_write : (.code ⟨"CapabilityDomainsModel", "write", "(IIII)I"⟩ prog_8_method_28_code 7 (some .int) : Cond) ∈ lw_tbl ∧ cd_gw (.code ⟨"CapabilityDomainsModel", "write", "(IIII)I"⟩ prog_8_method_28_code 7 (some .int)) = true := cd_tw 807 (by decide +kernel) (by decide +kernel)
theorem ml_La_122 : (.methodLink "CapabilityDomainsLaw" 122 ⟨"CapabilityDomainsModel", "pass", "(IIII)I"⟩ : Cond) ∈ lw_tbl ∧ cd_gw (.methodLink "CapabilityDomainsLaw" 122 ⟨"CapabilityDomainsModel", "pass", "(IIII)I"⟩) = true := cd_tw 808 (by decide +kernel) (by decide +kernel)
theorem im_Mo_pass : (.instanceMethod ⟨"CapabilityDomainsModel", "pass", "(IIII)I"⟩ : Cond) ∈ lw_tbl ∧ cd_gw (.instanceMethod ⟨"CapabilityDomainsModel", "pass", "(IIII)I"⟩) = true := cd_tw 809 (by decide +kernel) (by decide +kernel)
theorem se_Mo_pass : (.selects "CapabilityDomainsModel" ⟨"CapabilityDomainsModel", "pass", "(IIII)I"⟩ ⟨"CapabilityDomainsModel", "pass", "(IIII)I"⟩ : Cond) ∈ lw_tbl ∧ cd_gw (.selects "CapabilityDomainsModel" ⟨"CapabilityDomainsModel", "pass", "(IIII)I"⟩ ⟨"CapabilityDomainsModel", "pass", "(IIII)I"⟩) = true := cd_tw 810 (by decide +kernel) (by decide +kernel)
theorem cw_Mo_pass : (.code ⟨"CapabilityDomainsModel", "pass", "(IIII)I"⟩ prog_8_method_30_code 12 (some .int) : Cond) ∈ lw_tbl ∧ cd_gw (.code ⟨"CapabilityDomainsModel", "pass", "(IIII)I"⟩ prog_8_method_30_code 12 (some .int)) = true := cd_tw 811 (by decide +kernel) (by decide +kernel)
theorem ml_Mo_119 : (.methodLink "CapabilityDomainsModel" 119 ⟨"CapabilityDomainsModel", "gather", "(II)V"⟩ : Cond) ∈ lw_tbl ∧ cd_gw (.methodLink "CapabilityDomainsModel" 119 ⟨"CapabilityDomainsModel", "gather", "(II)V"⟩) = true := cd_tw 812 (by decide +kernel) (by decide +kernel)
theorem im_Mo_gather : (.instanceMethod ⟨"CapabilityDomainsModel", "gather", "(II)V"⟩ : Cond) ∈ lw_tbl ∧ cd_gw (.instanceMethod ⟨"CapabilityDomainsModel", "gather", "(II)V"⟩) = true := cd_tw 814 (by decide +kernel) (by decide +kernel)
theorem cw_Mo_gather : (.code ⟨"CapabilityDomainsModel", "gather", "(II)V"⟩ prog_8_method_29_code 6 none : Cond) ∈ lw_tbl ∧ cd_gw (.code ⟨"CapabilityDomainsModel", "gather", "(II)V"⟩ prog_8_method_29_code 6 none) = true := cd_tw 815 (by decide +kernel) (by decide +kernel)
theorem ml_La_125 : (.methodLink "CapabilityDomainsLaw" 125 ⟨"CapabilityDomainsModel", "take", "(IIII)I"⟩ : Cond) ∈ lw_tbl ∧ cd_gw (.methodLink "CapabilityDomainsLaw" 125 ⟨"CapabilityDomainsModel", "take", "(IIII)I"⟩) = true := cd_tw 816 (by decide +kernel) (by decide +kernel)
theorem im_Mo_take : (.instanceMethod ⟨"CapabilityDomainsModel", "take", "(IIII)I"⟩ : Cond) ∈ lw_tbl ∧ cd_gw (.instanceMethod ⟨"CapabilityDomainsModel", "take", "(IIII)I"⟩) = true := cd_tw 817 (by decide +kernel) (by decide +kernel)
theorem se_Mo_take : (.selects "CapabilityDomainsModel" ⟨"CapabilityDomainsModel", "take", "(IIII)I"⟩ ⟨"CapabilityDomainsModel", "take", "(IIII)I"⟩ : Cond) ∈ lw_tbl ∧ cd_gw (.selects "CapabilityDomainsModel" ⟨"CapabilityDomainsModel", "take", "(IIII)I"⟩ ⟨"CapabilityDomainsModel", "take", "(IIII)I"⟩) = true := cd_tw 818 (by decide +kernel) (by decide +kernel)
theorem cw_Mo_take : (.code ⟨"CapabilityDomainsModel", "take", "(IIII)I"⟩ prog_8_method_31_code 9 (some .int) : Cond) ∈ lw_tbl ∧ cd_gw (.code ⟨"CapabilityDomainsModel", "take", "(IIII)I"⟩ prog_8_method_31_code 9 (some .int)) = true := cd_tw 819 (by decide +kernel) (by decide +kernel)
theorem ml_La_128 : (.methodLink "CapabilityDomainsLaw" 128 ⟨"CapabilityDomainsModel", "free", "(II)I"⟩ : Cond) ∈ lw_tbl ∧ cd_gw (.methodLink "CapabilityDomainsLaw" 128 ⟨"CapabilityDomainsModel", "free", "(II)I"⟩) = true := cd_tw 820 (by decide +kernel) (by decide +kernel)
theorem im_Mo_free : (.instanceMethod ⟨"CapabilityDomainsModel", "free", "(II)I"⟩ : Cond) ∈ lw_tbl ∧ cd_gw (.instanceMethod ⟨"CapabilityDomainsModel", "free", "(II)I"⟩) = true := cd_tw 821 (by decide +kernel) (by decide +kernel)
theorem se_Mo_free : (.selects "CapabilityDomainsModel" ⟨"CapabilityDomainsModel", "free", "(II)I"⟩ ⟨"CapabilityDomainsModel", "free", "(II)I"⟩ : Cond) ∈ lw_tbl ∧ cd_gw (.selects "CapabilityDomainsModel" ⟨"CapabilityDomainsModel", "free", "(II)I"⟩ ⟨"CapabilityDomainsModel", "free", "(II)I"⟩) = true := cd_tw 822 (by decide +kernel) (by decide +kernel)
theorem cw_Mo_free : (.code ⟨"CapabilityDomainsModel", "free", "(II)I"⟩ prog_8_method_32_code 8 (some .int) : Cond) ∈ lw_tbl ∧ cd_gw (.code ⟨"CapabilityDomainsModel", "free", "(II)I"⟩ prog_8_method_32_code 8 (some .int)) = true := cd_tw 823 (by decide +kernel) (by decide +kernel)
theorem ml_La_131 : (.methodLink "CapabilityDomainsLaw" 131 ⟨"CapabilityDomainsModel", "end", "(I)I"⟩ : Cond) ∈ lw_tbl ∧ cd_gw (.methodLink "CapabilityDomainsLaw" 131 ⟨"CapabilityDomainsModel", "end", "(I)I"⟩) = true := cd_tw 824 (by decide +kernel) (by decide +kernel)
theorem im_Mo_end : (.instanceMethod ⟨"CapabilityDomainsModel", "end", "(I)I"⟩ : Cond) ∈ lw_tbl ∧ cd_gw (.instanceMethod ⟨"CapabilityDomainsModel", "end", "(I)I"⟩) = true := cd_tw 825 (by decide +kernel) (by decide +kernel)
theorem se_Mo_end : (.selects "CapabilityDomainsModel" ⟨"CapabilityDomainsModel", "end", "(I)I"⟩ ⟨"CapabilityDomainsModel", "end", "(I)I"⟩ : Cond) ∈ lw_tbl ∧ cd_gw (.selects "CapabilityDomainsModel" ⟨"CapabilityDomainsModel", "end", "(I)I"⟩ ⟨"CapabilityDomainsModel", "end", "(I)I"⟩) = true := cd_tw 826 (by decide +kernel) (by decide +kernel)
theorem cw_Mo_end : (.code ⟨"CapabilityDomainsModel", "end", "(I)I"⟩ prog_8_method_33_code 4 (some .int) : Cond) ∈ lw_tbl ∧ cd_gw (.code ⟨"CapabilityDomainsModel", "end", "(I)I"⟩ prog_8_method_33_code 4 (some .int)) = true := cd_tw 827 (by decide +kernel) (by decide +kernel)
theorem ml_La_135 : (.methodLink "CapabilityDomainsLaw" 135 ⟨"CapabilityDomainsModel", "holds", "(III)I"⟩ : Cond) ∈ lw_tbl ∧ cd_gw (.methodLink "CapabilityDomainsLaw" 135 ⟨"CapabilityDomainsModel", "holds", "(III)I"⟩) = true := cd_tw 828 (by decide +kernel) (by decide +kernel)
theorem im_Mo_holds : (.instanceMethod ⟨"CapabilityDomainsModel", "holds", "(III)I"⟩ : Cond) ∈ lw_tbl ∧ cd_gw (.instanceMethod ⟨"CapabilityDomainsModel", "holds", "(III)I"⟩) = true := cd_tw 829 (by decide +kernel) (by decide +kernel)
theorem se_Mo_holds : (.selects "CapabilityDomainsModel" ⟨"CapabilityDomainsModel", "holds", "(III)I"⟩ ⟨"CapabilityDomainsModel", "holds", "(III)I"⟩ : Cond) ∈ lw_tbl ∧ cd_gw (.selects "CapabilityDomainsModel" ⟨"CapabilityDomainsModel", "holds", "(III)I"⟩ ⟨"CapabilityDomainsModel", "holds", "(III)I"⟩) = true := cd_tw 830 (by decide +kernel) (by decide +kernel)
theorem cw_Mo_holds : (.code ⟨"CapabilityDomainsModel", "holds", "(III)I"⟩ prog_8_method_34_code 5 (some .int) : Cond) ∈ lw_tbl ∧ cd_gw (.code ⟨"CapabilityDomainsModel", "holds", "(III)I"⟩ prog_8_method_34_code 5 (some .int)) = true := cd_tw 831 (by decide +kernel) (by decide +kernel)
theorem ml_La_139 : (.methodLink "CapabilityDomainsLaw" 139 ⟨"CapabilityDomainsModel", "linked", "(III)I"⟩ : Cond) ∈ lw_tbl ∧ cd_gw (.methodLink "CapabilityDomainsLaw" 139 ⟨"CapabilityDomainsModel", "linked", "(III)I"⟩) = true := cd_tw 832 (by decide +kernel) (by decide +kernel)
theorem im_Mo_linked : (.instanceMethod ⟨"CapabilityDomainsModel", "linked", "(III)I"⟩ : Cond) ∈ lw_tbl ∧ cd_gw (.instanceMethod ⟨"CapabilityDomainsModel", "linked", "(III)I"⟩) = true := cd_tw 833 (by decide +kernel) (by decide +kernel)
theorem se_Mo_linked : (.selects "CapabilityDomainsModel" ⟨"CapabilityDomainsModel", "linked", "(III)I"⟩ ⟨"CapabilityDomainsModel", "linked", "(III)I"⟩ : Cond) ∈ lw_tbl ∧ cd_gw (.selects "CapabilityDomainsModel" ⟨"CapabilityDomainsModel", "linked", "(III)I"⟩ ⟨"CapabilityDomainsModel", "linked", "(III)I"⟩) = true := cd_tw 834 (by decide +kernel) (by decide +kernel)
theorem cw_Mo_linked : (.code ⟨"CapabilityDomainsModel", "linked", "(III)I"⟩ prog_8_method_35_code 5 (some .int) : Cond) ∈ lw_tbl ∧ cd_gw (.code ⟨"CapabilityDomainsModel", "linked", "(III)I"⟩ prog_8_method_35_code 5 (some .int)) = true := cd_tw 835 (by decide +kernel) (by decide +kernel)
theorem ml_La_143 : (.methodLink "CapabilityDomainsLaw" 143 ⟨"CapabilityDomainsModel", "slot", "(II)I"⟩ : Cond) ∈ lw_tbl ∧ cd_gw (.methodLink "CapabilityDomainsLaw" 143 ⟨"CapabilityDomainsModel", "slot", "(II)I"⟩) = true := cd_tw 836 (by decide +kernel) (by decide +kernel)
theorem im_Mo_slot : (.instanceMethod ⟨"CapabilityDomainsModel", "slot", "(II)I"⟩ : Cond) ∈ lw_tbl ∧ cd_gw (.instanceMethod ⟨"CapabilityDomainsModel", "slot", "(II)I"⟩) = true := cd_tw 837 (by decide +kernel) (by decide +kernel)
theorem se_Mo_slot : (.selects "CapabilityDomainsModel" ⟨"CapabilityDomainsModel", "slot", "(II)I"⟩ ⟨"CapabilityDomainsModel", "slot", "(II)I"⟩ : Cond) ∈ lw_tbl ∧ cd_gw (.selects "CapabilityDomainsModel" ⟨"CapabilityDomainsModel", "slot", "(II)I"⟩ ⟨"CapabilityDomainsModel", "slot", "(II)I"⟩) = true := cd_tw 838 (by decide +kernel) (by decide +kernel)
theorem cw_Mo_slot : (.code ⟨"CapabilityDomainsModel", "slot", "(II)I"⟩ prog_8_method_36_code 4 (some .int) : Cond) ∈ lw_tbl ∧ cd_gw (.code ⟨"CapabilityDomainsModel", "slot", "(II)I"⟩ prog_8_method_36_code 4 (some .int)) = true := cd_tw 839 (by decide +kernel) (by decide +kernel)
theorem ml_La_147 : (.methodLink "CapabilityDomainsLaw" 147 ⟨"CapabilityDomainsModel", "count", "(I)I"⟩ : Cond) ∈ lw_tbl ∧ cd_gw (.methodLink "CapabilityDomainsLaw" 147 ⟨"CapabilityDomainsModel", "count", "(I)I"⟩) = true := cd_tw 840 (by decide +kernel) (by decide +kernel)
theorem im_Mo_count : (.instanceMethod ⟨"CapabilityDomainsModel", "count", "(I)I"⟩ : Cond) ∈ lw_tbl ∧ cd_gw (.instanceMethod ⟨"CapabilityDomainsModel", "count", "(I)I"⟩) = true := cd_tw 841 (by decide +kernel) (by decide +kernel)
theorem se_Mo_count : (.selects "CapabilityDomainsModel" ⟨"CapabilityDomainsModel", "count", "(I)I"⟩ ⟨"CapabilityDomainsModel", "count", "(I)I"⟩ : Cond) ∈ lw_tbl ∧ cd_gw (.selects "CapabilityDomainsModel" ⟨"CapabilityDomainsModel", "count", "(I)I"⟩ ⟨"CapabilityDomainsModel", "count", "(I)I"⟩) = true := cd_tw 842 (by decide +kernel) (by decide +kernel)
theorem cw_Mo_count : (.code ⟨"CapabilityDomainsModel", "count", "(I)I"⟩ prog_8_method_37_code 4 (some .int) : Cond) ∈ lw_tbl ∧ cd_gw (.code ⟨"CapabilityDomainsModel", "count", "(I)I"⟩ prog_8_method_37_code 4 (some .int)) = true := cd_tw 843 (by decide +kernel) (by decide +kernel)
theorem se_Cd_isField : (.selects "CapabilityDomains" ⟨"CapabilityDomains", "isField", "(III)Z"⟩ ⟨"CapabilityDomains", "isField", "(III)Z"⟩ : Cond) ∈ lw_tbl ∧ cd_gw (.selects "CapabilityDomains" ⟨"CapabilityDomains", "isField", "(III)Z"⟩ ⟨"CapabilityDomains", "isField", "(III)Z"⟩) = true := cd_tw 0 (by decide +kernel) (by decide +kernel)
theorem se_Cd_isDomain : (.selects "CapabilityDomains" ⟨"CapabilityDomains", "isDomain", "(I)Z"⟩ ⟨"CapabilityDomains", "isDomain", "(I)Z"⟩ : Cond) ∈ lw_tbl ∧ cd_gw (.selects "CapabilityDomains" ⟨"CapabilityDomains", "isDomain", "(I)Z"⟩ ⟨"CapabilityDomains", "isDomain", "(I)Z"⟩) = true := cd_tw 1 (by decide +kernel) (by decide +kernel)
theorem se_Cd_livingDomains : (.selects "CapabilityDomains" ⟨"CapabilityDomains", "livingDomains", "()I"⟩ ⟨"CapabilityDomains", "livingDomains", "()I"⟩ : Cond) ∈ lw_tbl ∧ cd_gw (.selects "CapabilityDomains" ⟨"CapabilityDomains", "livingDomains", "()I"⟩ ⟨"CapabilityDomains", "livingDomains", "()I"⟩) = true := cd_tw 2 (by decide +kernel) (by decide +kernel)
theorem se_Cd_livingCapabilities : (.selects "CapabilityDomains" ⟨"CapabilityDomains", "livingCapabilities", "()I"⟩ ⟨"CapabilityDomains", "livingCapabilities", "()I"⟩ : Cond) ∈ lw_tbl ∧ cd_gw (.selects "CapabilityDomains" ⟨"CapabilityDomains", "livingCapabilities", "()I"⟩ ⟨"CapabilityDomains", "livingCapabilities", "()I"⟩) = true := cd_tw 3 (by decide +kernel) (by decide +kernel)
theorem se_Cd_objectsOf : (.selects "CapabilityDomains" ⟨"CapabilityDomains", "objectsOf", "(I)I"⟩ ⟨"CapabilityDomains", "objectsOf", "(I)I"⟩ : Cond) ∈ lw_tbl ∧ cd_gw (.selects "CapabilityDomains" ⟨"CapabilityDomains", "objectsOf", "(I)I"⟩ ⟨"CapabilityDomains", "objectsOf", "(I)I"⟩) = true := cd_tw 4 (by decide +kernel) (by decide +kernel)
theorem se_Cd_livingDomain : (.selects "CapabilityDomains" ⟨"CapabilityDomains", "livingDomain", "(I)LCapabilityDomains$Domain;"⟩ ⟨"CapabilityDomains", "livingDomain", "(I)LCapabilityDomains$Domain;"⟩ : Cond) ∈ lw_tbl ∧ cd_gw (.selects "CapabilityDomains" ⟨"CapabilityDomains", "livingDomain", "(I)LCapabilityDomains$Domain;"⟩ ⟨"CapabilityDomains", "livingDomain", "(I)LCapabilityDomains$Domain;"⟩) = true := cd_tw 6 (by decide +kernel) (by decide +kernel)
theorem se_Cd_requireSlot : (.selects "CapabilityDomains" ⟨"CapabilityDomains", "requireSlot", "(II)V"⟩ ⟨"CapabilityDomains", "requireSlot", "(II)V"⟩ : Cond) ∈ lw_tbl ∧ cd_gw (.selects "CapabilityDomains" ⟨"CapabilityDomains", "requireSlot", "(II)V"⟩ ⟨"CapabilityDomains", "requireSlot", "(II)V"⟩) = true := cd_tw 7 (by decide +kernel) (by decide +kernel)
theorem se_Cd_requireCapabilityLeft : (.selects "CapabilityDomains" ⟨"CapabilityDomains", "requireCapabilityLeft", "()V"⟩ ⟨"CapabilityDomains", "requireCapabilityLeft", "()V"⟩ : Cond) ∈ lw_tbl ∧ cd_gw (.selects "CapabilityDomains" ⟨"CapabilityDomains", "requireCapabilityLeft", "()V"⟩ ⟨"CapabilityDomains", "requireCapabilityLeft", "()V"⟩) = true := cd_tw 8 (by decide +kernel) (by decide +kernel)
theorem se_Cd_putNew : (.selects "CapabilityDomains" ⟨"CapabilityDomains", "putNew", "(LCapabilityDomains$Capability;LCapabilityDomains$Domain;I)I"⟩ ⟨"CapabilityDomains", "putNew", "(LCapabilityDomains$Capability;LCapabilityDomains$Domain;I)I"⟩ : Cond) ∈ lw_tbl ∧ cd_gw (.selects "CapabilityDomains" ⟨"CapabilityDomains", "putNew", "(LCapabilityDomains$Capability;LCapabilityDomains$Domain;I)I"⟩ ⟨"CapabilityDomains", "putNew", "(LCapabilityDomains$Capability;LCapabilityDomains$Domain;I)I"⟩) = true := cd_tw 9 (by decide +kernel) (by decide +kernel)
theorem se_Cd_spreadDeath : (.selects "CapabilityDomains" ⟨"CapabilityDomains", "spreadDeath", "()I"⟩ ⟨"CapabilityDomains", "spreadDeath", "()I"⟩ : Cond) ∈ lw_tbl ∧ cd_gw (.selects "CapabilityDomains" ⟨"CapabilityDomains", "spreadDeath", "()I"⟩ ⟨"CapabilityDomains", "spreadDeath", "()I"⟩) = true := cd_tw 10 (by decide +kernel) (by decide +kernel)
theorem se_Cd_usable : (.selects "CapabilityDomains" ⟨"CapabilityDomains", "usable", "(III)LCapabilityDomains$Capability;"⟩ ⟨"CapabilityDomains", "usable", "(III)LCapabilityDomains$Capability;"⟩ : Cond) ∈ lw_tbl ∧ cd_gw (.selects "CapabilityDomains" ⟨"CapabilityDomains", "usable", "(III)LCapabilityDomains$Capability;"⟩ ⟨"CapabilityDomains", "usable", "(III)LCapabilityDomains$Capability;"⟩) = true := cd_tw 11 (by decide +kernel) (by decide +kernel)
theorem se_Re_comeTo : (.selects "CapabilityDomains$Reach" ⟨"CapabilityDomains$Reach", "comeTo", "(II)V"⟩ ⟨"CapabilityDomains$Reach", "comeTo", "(II)V"⟩ : Cond) ∈ lw_tbl ∧ cd_gw (.selects "CapabilityDomains$Reach" ⟨"CapabilityDomains$Reach", "comeTo", "(II)V"⟩ ⟨"CapabilityDomains$Reach", "comeTo", "(II)V"⟩) = true := cd_tw 12 (by decide +kernel) (by decide +kernel)
theorem se_Re_copyFields : (.selects "CapabilityDomains$Reach" ⟨"CapabilityDomains$Reach", "copyFields", "(LCapabilityDomains$DomainObject;LCapabilityDomains$DomainObject;)V"⟩ ⟨"CapabilityDomains$Reach", "copyFields", "(LCapabilityDomains$DomainObject;LCapabilityDomains$DomainObject;)V"⟩ : Cond) ∈ lw_tbl ∧ cd_gw (.selects "CapabilityDomains$Reach" ⟨"CapabilityDomains$Reach", "copyFields", "(LCapabilityDomains$DomainObject;LCapabilityDomains$DomainObject;)V"⟩ ⟨"CapabilityDomains$Reach", "copyFields", "(LCapabilityDomains$DomainObject;LCapabilityDomains$DomainObject;)V"⟩) = true := cd_tw 13 (by decide +kernel) (by decide +kernel)
theorem se_Mo_fail : (.selects "CapabilityDomainsModel" ⟨"CapabilityDomainsModel", "fail", "(I)I"⟩ ⟨"CapabilityDomainsModel", "fail", "(I)I"⟩ : Cond) ∈ lw_tbl ∧ cd_gw (.selects "CapabilityDomainsModel" ⟨"CapabilityDomainsModel", "fail", "(I)I"⟩ ⟨"CapabilityDomainsModel", "fail", "(I)I"⟩) = true := cd_tw 14 (by decide +kernel) (by decide +kernel)
theorem se_Mo_fine : (.selects "CapabilityDomainsModel" ⟨"CapabilityDomainsModel", "fine", "(I)I"⟩ ⟨"CapabilityDomainsModel", "fine", "(I)I"⟩ : Cond) ∈ lw_tbl ∧ cd_gw (.selects "CapabilityDomainsModel" ⟨"CapabilityDomainsModel", "fine", "(I)I"⟩ ⟨"CapabilityDomainsModel", "fine", "(I)I"⟩) = true := cd_tw 15 (by decide +kernel) (by decide +kernel)
theorem se_Mo_noDomain : (.selects "CapabilityDomainsModel" ⟨"CapabilityDomainsModel", "noDomain", "(I)Z"⟩ ⟨"CapabilityDomainsModel", "noDomain", "(I)Z"⟩ : Cond) ∈ lw_tbl ∧ cd_gw (.selects "CapabilityDomainsModel" ⟨"CapabilityDomainsModel", "noDomain", "(I)Z"⟩ ⟨"CapabilityDomainsModel", "noDomain", "(I)Z"⟩) = true := cd_tw 16 (by decide +kernel) (by decide +kernel)
theorem se_Mo_objects : (.selects "CapabilityDomainsModel" ⟨"CapabilityDomainsModel", "objects", "(I)I"⟩ ⟨"CapabilityDomainsModel", "objects", "(I)I"⟩ : Cond) ∈ lw_tbl ∧ cd_gw (.selects "CapabilityDomainsModel" ⟨"CapabilityDomainsModel", "objects", "(I)I"⟩ ⟨"CapabilityDomainsModel", "objects", "(I)I"⟩) = true := cd_tw 17 (by decide +kernel) (by decide +kernel)
theorem se_Mo_newObject : (.selects "CapabilityDomainsModel" ⟨"CapabilityDomainsModel", "newObject", "(I)I"⟩ ⟨"CapabilityDomainsModel", "newObject", "(I)I"⟩ : Cond) ∈ lw_tbl ∧ cd_gw (.selects "CapabilityDomainsModel" ⟨"CapabilityDomainsModel", "newObject", "(I)I"⟩ ⟨"CapabilityDomainsModel", "newObject", "(I)I"⟩) = true := cd_tw 18 (by decide +kernel) (by decide +kernel)
theorem se_Mo_put : (.selects "CapabilityDomainsModel" ⟨"CapabilityDomainsModel", "put", "(III)V"⟩ ⟨"CapabilityDomainsModel", "put", "(III)V"⟩ : Cond) ∈ lw_tbl ∧ cd_gw (.selects "CapabilityDomainsModel" ⟨"CapabilityDomainsModel", "put", "(III)V"⟩ ⟨"CapabilityDomainsModel", "put", "(III)V"⟩) = true := cd_tw 19 (by decide +kernel) (by decide +kernel)
theorem se_Mo_none : (.selects "CapabilityDomainsModel" ⟨"CapabilityDomainsModel", "none", "(II)Z"⟩ ⟨"CapabilityDomainsModel", "none", "(II)Z"⟩ : Cond) ∈ lw_tbl ∧ cd_gw (.selects "CapabilityDomainsModel" ⟨"CapabilityDomainsModel", "none", "(II)Z"⟩ ⟨"CapabilityDomainsModel", "none", "(II)Z"⟩) = true := cd_tw 20 (by decide +kernel) (by decide +kernel)
theorem se_Mo_out : (.selects "CapabilityDomainsModel" ⟨"CapabilityDomainsModel", "out", "(II)Z"⟩ ⟨"CapabilityDomainsModel", "out", "(II)Z"⟩ : Cond) ∈ lw_tbl ∧ cd_gw (.selects "CapabilityDomainsModel" ⟨"CapabilityDomainsModel", "out", "(II)Z"⟩ ⟨"CapabilityDomainsModel", "out", "(II)Z"⟩) = true := cd_tw 21 (by decide +kernel) (by decide +kernel)
theorem se_Mo_capability : (.selects "CapabilityDomainsModel" ⟨"CapabilityDomainsModel", "capability", "(IIII)I"⟩ ⟨"CapabilityDomainsModel", "capability", "(IIII)I"⟩ : Cond) ∈ lw_tbl ∧ cd_gw (.selects "CapabilityDomainsModel" ⟨"CapabilityDomainsModel", "capability", "(IIII)I"⟩ ⟨"CapabilityDomainsModel", "capability", "(IIII)I"⟩) = true := cd_tw 22 (by decide +kernel) (by decide +kernel)
theorem se_Mo_dead : (.selects "CapabilityDomainsModel" ⟨"CapabilityDomainsModel", "dead", "(I)Z"⟩ ⟨"CapabilityDomainsModel", "dead", "(I)Z"⟩ : Cond) ∈ lw_tbl ∧ cd_gw (.selects "CapabilityDomainsModel" ⟨"CapabilityDomainsModel", "dead", "(I)Z"⟩ ⟨"CapabilityDomainsModel", "dead", "(I)Z"⟩) = true := cd_tw 23 (by decide +kernel) (by decide +kernel)
theorem se_Mo_home : (.selects "CapabilityDomainsModel" ⟨"CapabilityDomainsModel", "home", "(I)I"⟩ ⟨"CapabilityDomainsModel", "home", "(I)I"⟩ : Cond) ∈ lw_tbl ∧ cd_gw (.selects "CapabilityDomainsModel" ⟨"CapabilityDomainsModel", "home", "(I)I"⟩ ⟨"CapabilityDomainsModel", "home", "(I)I"⟩) = true := cd_tw 24 (by decide +kernel) (by decide +kernel)
theorem se_Mo_alive : (.selects "CapabilityDomainsModel" ⟨"CapabilityDomainsModel", "alive", "()I"⟩ ⟨"CapabilityDomainsModel", "alive", "()I"⟩ : Cond) ∈ lw_tbl ∧ cd_gw (.selects "CapabilityDomainsModel" ⟨"CapabilityDomainsModel", "alive", "()I"⟩ ⟨"CapabilityDomainsModel", "alive", "()I"⟩) = true := cd_tw 25 (by decide +kernel) (by decide +kernel)
theorem se_Mo_useFails : (.selects "CapabilityDomainsModel" ⟨"CapabilityDomainsModel", "useFails", "(III)I"⟩ ⟨"CapabilityDomainsModel", "useFails", "(III)I"⟩ : Cond) ∈ lw_tbl ∧ cd_gw (.selects "CapabilityDomainsModel" ⟨"CapabilityDomainsModel", "useFails", "(III)I"⟩ ⟨"CapabilityDomainsModel", "useFails", "(III)I"⟩) = true := cd_tw 26 (by decide +kernel) (by decide +kernel)
theorem se_Mo_usedUp : (.selects "CapabilityDomainsModel" ⟨"CapabilityDomainsModel", "usedUp", "(I)Z"⟩ ⟨"CapabilityDomainsModel", "usedUp", "(I)Z"⟩ : Cond) ∈ lw_tbl ∧ cd_gw (.selects "CapabilityDomainsModel" ⟨"CapabilityDomainsModel", "usedUp", "(I)Z"⟩ ⟨"CapabilityDomainsModel", "usedUp", "(I)Z"⟩) = true := cd_tw 27 (by decide +kernel) (by decide +kernel)
theorem se_Mo_use : (.selects "CapabilityDomainsModel" ⟨"CapabilityDomainsModel", "use", "(I)V"⟩ ⟨"CapabilityDomainsModel", "use", "(I)V"⟩ : Cond) ∈ lw_tbl ∧ cd_gw (.selects "CapabilityDomainsModel" ⟨"CapabilityDomainsModel", "use", "(I)V"⟩ ⟨"CapabilityDomainsModel", "use", "(I)V"⟩) = true := cd_tw 28 (by decide +kernel) (by decide +kernel)
theorem se_Mo_gather : (.selects "CapabilityDomainsModel" ⟨"CapabilityDomainsModel", "gather", "(II)V"⟩ ⟨"CapabilityDomainsModel", "gather", "(II)V"⟩ : Cond) ∈ lw_tbl ∧ cd_gw (.selects "CapabilityDomainsModel" ⟨"CapabilityDomainsModel", "gather", "(II)V"⟩ ⟨"CapabilityDomainsModel", "gather", "(II)V"⟩) = true := cd_tw 29 (by decide +kernel) (by decide +kernel)
end
section
theorem d_Cd_init_0 : decode prog_1_method_1_code 0 = .ok (.aload_n 0, 1) := by decide +kernel
theorem d_Cd_init_1 : decode prog_1_method_1_code 1 = .ok (.invokespecial 1, 3) := by decide +kernel
theorem d_Cd_init_4 : decode prog_1_method_1_code 4 = .ok (.aload_n 0, 1) := by decide +kernel
theorem d_Cd_init_5 : decode prog_1_method_1_code 5 = .ok (.bipush 6, 2) := by decide +kernel
theorem d_Cd_init_7 : decode prog_1_method_1_code 7 = .ok (.anewarray 9, 3) := by decide +kernel
theorem d_Cd_init_10 : decode prog_1_method_1_code 10 = .ok (.putfield 11, 3) := by decide +kernel
theorem d_Cd_init_13 : decode prog_1_method_1_code 13 = .ok (.aload_n 0, 1) := by decide +kernel
theorem d_Cd_init_14 : decode prog_1_method_1_code 14 = .ok (.bipush 40, 2) := by decide +kernel
theorem d_Cd_init_16 : decode prog_1_method_1_code 16 = .ok (.anewarray 15, 3) := by decide +kernel
theorem d_Cd_init_19 : decode prog_1_method_1_code 19 = .ok (.putfield 17, 3) := by decide +kernel
theorem d_Cd_init_22 : decode prog_1_method_1_code 22 = .ok (.aload_n 0, 1) := by decide +kernel
theorem d_Cd_init_23 : decode prog_1_method_1_code 23 = .ok (.new 21, 3) := by decide +kernel
theorem d_Cd_init_26 : decode prog_1_method_1_code 26 = .ok (.dup, 1) := by decide +kernel
theorem d_Cd_init_27 : decode prog_1_method_1_code 27 = .ok (.invokespecial 23, 3) := by decide +kernel
theorem d_Cd_init_30 : decode prog_1_method_1_code 30 = .ok (.putfield 24, 3) := by decide +kernel
theorem d_Cd_init_33 : decode prog_1_method_1_code 33 = .ok (.return_, 1) := by decide +kernel
theorem d_Cd_domain_0 : decode prog_1_method_2_code 0 = .ok (.aload_n 0, 1) := by decide +kernel
theorem d_Cd_domain_1 : decode prog_1_method_2_code 1 = .ok (.getfield 28, 3) := by decide +kernel
theorem d_Cd_domain_4 : decode prog_1_method_2_code 4 = .ok (.bipush 6, 2) := by decide +kernel
theorem d_Cd_domain_6 : decode prog_1_method_2_code 6 = .ok (.if_icmp .lt 13, 3) := by decide +kernel
theorem d_Cd_domain_9 : decode prog_1_method_2_code 9 = .ok (.new 32, 3) := by decide +kernel
theorem d_Cd_domain_12 : decode prog_1_method_2_code 12 = .ok (.dup, 1) := by decide +kernel
theorem d_Cd_domain_13 : decode prog_1_method_2_code 13 = .ok (.ldc 34, 2) := by decide +kernel
theorem d_Cd_domain_15 : decode prog_1_method_2_code 15 = .ok (.invokespecial 36, 3) := by decide +kernel
theorem d_Cd_domain_18 : decode prog_1_method_2_code 18 = .ok (.athrow, 1) := by decide +kernel
theorem d_Cd_domain_19 : decode prog_1_method_2_code 19 = .ok (.aload_n 0, 1) := by decide +kernel
theorem d_Cd_domain_20 : decode prog_1_method_2_code 20 = .ok (.getfield 11, 3) := by decide +kernel
theorem d_Cd_domain_23 : decode prog_1_method_2_code 23 = .ok (.aload_n 0, 1) := by decide +kernel
theorem d_Cd_domain_24 : decode prog_1_method_2_code 24 = .ok (.getfield 28, 3) := by decide +kernel
theorem d_Cd_domain_27 : decode prog_1_method_2_code 27 = .ok (.new 9, 3) := by decide +kernel
theorem d_Cd_domain_30 : decode prog_1_method_2_code 30 = .ok (.dup, 1) := by decide +kernel
theorem d_Cd_domain_31 : decode prog_1_method_2_code 31 = .ok (.invokespecial 39, 3) := by decide +kernel
theorem d_Cd_domain_34 : decode prog_1_method_2_code 34 = .ok (.aastore, 1) := by decide +kernel
theorem d_Cd_domain_35 : decode prog_1_method_2_code 35 = .ok (.aload_n 0, 1) := by decide +kernel
theorem d_Cd_domain_36 : decode prog_1_method_2_code 36 = .ok (.dup, 1) := by decide +kernel
theorem d_Cd_domain_37 : decode prog_1_method_2_code 37 = .ok (.getfield 28, 3) := by decide +kernel
theorem d_Cd_domain_40 : decode prog_1_method_2_code 40 = .ok (.iconst 1, 1) := by decide +kernel
theorem d_Cd_domain_41 : decode prog_1_method_2_code 41 = .ok (.iadd, 1) := by decide +kernel
theorem d_Cd_domain_42 : decode prog_1_method_2_code 42 = .ok (.putfield 28, 3) := by decide +kernel
theorem d_Cd_domain_45 : decode prog_1_method_2_code 45 = .ok (.aload_n 0, 1) := by decide +kernel
theorem d_Cd_domain_46 : decode prog_1_method_2_code 46 = .ok (.getfield 28, 3) := by decide +kernel
theorem d_Cd_domain_49 : decode prog_1_method_2_code 49 = .ok (.iconst 1, 1) := by decide +kernel
theorem d_Cd_domain_50 : decode prog_1_method_2_code 50 = .ok (.isub, 1) := by decide +kernel
theorem d_Cd_domain_51 : decode prog_1_method_2_code 51 = .ok (.ireturn, 1) := by decide +kernel
theorem d_Cd_object_0 : decode prog_1_method_3_code 0 = .ok (.aload_n 0, 1) := by decide +kernel
theorem d_Cd_object_1 : decode prog_1_method_3_code 1 = .ok (.iload_n 1, 1) := by decide +kernel
theorem d_Cd_object_2 : decode prog_1_method_3_code 2 = .ok (.invokevirtual 40, 3) := by decide +kernel
theorem d_Cd_object_5 : decode prog_1_method_3_code 5 = .ok (.astore_n 2, 1) := by decide +kernel
theorem d_Cd_object_6 : decode prog_1_method_3_code 6 = .ok (.aload_n 2, 1) := by decide +kernel
theorem d_Cd_object_7 : decode prog_1_method_3_code 7 = .ok (.invokevirtual 44, 3) := by decide +kernel
theorem d_Cd_object_10 : decode prog_1_method_3_code 10 = .ok (.bipush 12, 2) := by decide +kernel
theorem d_Cd_object_12 : decode prog_1_method_3_code 12 = .ok (.if_icmp .lt 13, 3) := by decide +kernel
theorem d_Cd_object_15 : decode prog_1_method_3_code 15 = .ok (.new 48, 3) := by decide +kernel
theorem d_Cd_object_18 : decode prog_1_method_3_code 18 = .ok (.dup, 1) := by decide +kernel
theorem d_Cd_object_19 : decode prog_1_method_3_code 19 = .ok (.ldc 50, 2) := by decide +kernel
theorem d_Cd_object_21 : decode prog_1_method_3_code 21 = .ok (.invokespecial 52, 3) := by decide +kernel
theorem d_Cd_object_24 : decode prog_1_method_3_code 24 = .ok (.athrow, 1) := by decide +kernel
theorem d_Cd_object_25 : decode prog_1_method_3_code 25 = .ok (.aload_n 2, 1) := by decide +kernel
theorem d_Cd_object_26 : decode prog_1_method_3_code 26 = .ok (.invokevirtual 53, 3) := by decide +kernel
theorem d_Cd_object_29 : decode prog_1_method_3_code 29 = .ok (.ireturn, 1) := by decide +kernel
theorem d_Cd_set_0 : decode prog_1_method_4_code 0 = .ok (.aload_n 0, 1) := by decide +kernel
theorem d_Cd_set_1 : decode prog_1_method_4_code 1 = .ok (.iload_n 1, 1) := by decide +kernel
theorem d_Cd_set_2 : decode prog_1_method_4_code 2 = .ok (.invokevirtual 40, 3) := by decide +kernel
theorem d_Cd_set_5 : decode prog_1_method_4_code 5 = .ok (.iload_n 2, 1) := by decide +kernel
theorem d_Cd_set_6 : decode prog_1_method_4_code 6 = .ok (.iload_n 3, 1) := by decide +kernel
theorem d_Cd_set_7 : decode prog_1_method_4_code 7 = .ok (.invokestatic 56, 3) := by decide +kernel
theorem d_Cd_set_10 : decode prog_1_method_4_code 10 = .ok (.astore 5, 2) := by decide +kernel
theorem d_Cd_set_12 : decode prog_1_method_4_code 12 = .ok (.aload 5, 2) := by decide +kernel
theorem d_Cd_set_14 : decode prog_1_method_4_code 14 = .ok (.getfield 60, 3) := by decide +kernel
theorem d_Cd_set_17 : decode prog_1_method_4_code 17 = .ok (.istore 6, 2) := by decide +kernel
theorem d_Cd_set_19 : decode prog_1_method_4_code 19 = .ok (.aload 5, 2) := by decide +kernel
theorem d_Cd_set_21 : decode prog_1_method_4_code 21 = .ok (.iload 4, 2) := by decide +kernel
theorem d_Cd_set_23 : decode prog_1_method_4_code 23 = .ok (.invokevirtual 65, 3) := by decide +kernel
theorem d_Cd_set_26 : decode prog_1_method_4_code 26 = .ok (.iload 6, 2) := by decide +kernel
theorem d_Cd_set_28 : decode prog_1_method_4_code 28 = .ok (.ireturn, 1) := by decide +kernel
theorem d_Cd_link_0 : decode prog_1_method_5_code 0 = .ok (.aload_n 0, 1) := by decide +kernel
theorem d_Cd_link_1 : decode prog_1_method_5_code 1 = .ok (.iload_n 1, 1) := by decide +kernel
theorem d_Cd_link_2 : decode prog_1_method_5_code 2 = .ok (.invokevirtual 40, 3) := by decide +kernel
theorem d_Cd_link_5 : decode prog_1_method_5_code 5 = .ok (.astore 5, 2) := by decide +kernel
theorem d_Cd_link_7 : decode prog_1_method_5_code 7 = .ok (.aload 5, 2) := by decide +kernel
theorem d_Cd_link_9 : decode prog_1_method_5_code 9 = .ok (.iload_n 2, 1) := by decide +kernel
theorem d_Cd_link_10 : decode prog_1_method_5_code 10 = .ok (.iload_n 3, 1) := by decide +kernel
theorem d_Cd_link_11 : decode prog_1_method_5_code 11 = .ok (.invokestatic 56, 3) := by decide +kernel
theorem d_Cd_link_14 : decode prog_1_method_5_code 14 = .ok (.astore 6, 2) := by decide +kernel
theorem d_Cd_link_16 : decode prog_1_method_5_code 16 = .ok (.aload 5, 2) := by decide +kernel
theorem d_Cd_link_18 : decode prog_1_method_5_code 18 = .ok (.iload 4, 2) := by decide +kernel
theorem d_Cd_link_20 : decode prog_1_method_5_code 20 = .ok (.invokevirtual 69, 3) := by decide +kernel
theorem d_Cd_link_23 : decode prog_1_method_5_code 23 = .ok (.ifCond .ne 13, 3) := by decide +kernel
theorem d_Cd_link_26 : decode prog_1_method_5_code 26 = .ok (.new 73, 3) := by decide +kernel
theorem d_Cd_link_29 : decode prog_1_method_5_code 29 = .ok (.dup, 1) := by decide +kernel
theorem d_Cd_link_30 : decode prog_1_method_5_code 30 = .ok (.ldc 75, 2) := by decide +kernel
theorem d_Cd_link_32 : decode prog_1_method_5_code 32 = .ok (.invokespecial 77, 3) := by decide +kernel
theorem d_Cd_link_35 : decode prog_1_method_5_code 35 = .ok (.athrow, 1) := by decide +kernel
theorem d_Cd_link_36 : decode prog_1_method_5_code 36 = .ok (.aload 6, 2) := by decide +kernel
theorem d_Cd_link_38 : decode prog_1_method_5_code 38 = .ok (.iload 4, 2) := by decide +kernel
theorem d_Cd_link_40 : decode prog_1_method_5_code 40 = .ok (.invokevirtual 78, 3) := by decide +kernel
theorem d_Cd_link_43 : decode prog_1_method_5_code 43 = .ok (.iconst 0, 1) := by decide +kernel
theorem d_Cd_link_44 : decode prog_1_method_5_code 44 = .ok (.ireturn, 1) := by decide +kernel
theorem d_Cd_hold_0 : decode prog_1_method_6_code 0 = .ok (.aload_n 0, 1) := by decide +kernel
theorem d_Cd_hold_1 : decode prog_1_method_6_code 1 = .ok (.iload_n 1, 1) := by decide +kernel
theorem d_Cd_hold_2 : decode prog_1_method_6_code 2 = .ok (.invokevirtual 40, 3) := by decide +kernel
theorem d_Cd_hold_5 : decode prog_1_method_6_code 5 = .ok (.astore 5, 2) := by decide +kernel
theorem d_Cd_hold_7 : decode prog_1_method_6_code 7 = .ok (.aload 5, 2) := by decide +kernel
theorem d_Cd_hold_9 : decode prog_1_method_6_code 9 = .ok (.iload_n 2, 1) := by decide +kernel
theorem d_Cd_hold_10 : decode prog_1_method_6_code 10 = .ok (.iload_n 3, 1) := by decide +kernel
theorem d_Cd_hold_11 : decode prog_1_method_6_code 11 = .ok (.invokestatic 56, 3) := by decide +kernel
theorem d_Cd_hold_14 : decode prog_1_method_6_code 14 = .ok (.astore 6, 2) := by decide +kernel
theorem d_Cd_hold_16 : decode prog_1_method_6_code 16 = .ok (.iload 4, 2) := by decide +kernel
theorem d_Cd_hold_18 : decode prog_1_method_6_code 18 = .ok (.invokestatic 81, 3) := by decide +kernel
theorem d_Cd_hold_21 : decode prog_1_method_6_code 21 = .ok (.ifCond .ne 13, 3) := by decide +kernel
theorem d_Cd_hold_24 : decode prog_1_method_6_code 24 = .ok (.new 84, 3) := by decide +kernel
theorem d_Cd_hold_27 : decode prog_1_method_6_code 27 = .ok (.dup, 1) := by decide +kernel
theorem d_Cd_hold_28 : decode prog_1_method_6_code 28 = .ok (.ldc 86, 2) := by decide +kernel
theorem d_Cd_hold_30 : decode prog_1_method_6_code 30 = .ok (.invokespecial 88, 3) := by decide +kernel
theorem d_Cd_hold_33 : decode prog_1_method_6_code 33 = .ok (.athrow, 1) := by decide +kernel
theorem d_Cd_hold_34 : decode prog_1_method_6_code 34 = .ok (.aload 6, 2) := by decide +kernel
theorem d_Cd_hold_36 : decode prog_1_method_6_code 36 = .ok (.aload 5, 2) := by decide +kernel
theorem d_Cd_hold_38 : decode prog_1_method_6_code 38 = .ok (.iload 4, 2) := by decide +kernel
theorem d_Cd_hold_40 : decode prog_1_method_6_code 40 = .ok (.invokestatic 89, 3) := by decide +kernel
theorem d_Cd_hold_43 : decode prog_1_method_6_code 43 = .ok (.invokevirtual 93, 3) := by decide +kernel
theorem d_Cd_hold_46 : decode prog_1_method_6_code 46 = .ok (.iconst 0, 1) := by decide +kernel
theorem d_Cd_hold_47 : decode prog_1_method_6_code 47 = .ok (.ireturn, 1) := by decide +kernel
theorem d_Cd_export_0 : decode prog_1_method_7_code 0 = .ok (.aload_n 0, 1) := by decide +kernel
theorem d_Cd_export_1 : decode prog_1_method_7_code 1 = .ok (.iload_n 1, 1) := by decide +kernel
theorem d_Cd_export_2 : decode prog_1_method_7_code 2 = .ok (.iload_n 3, 1) := by decide +kernel
theorem d_Cd_export_3 : decode prog_1_method_7_code 3 = .ok (.invokevirtual 97, 3) := by decide +kernel
theorem d_Cd_export_6 : decode prog_1_method_7_code 6 = .ok (.iload 4, 2) := by decide +kernel
theorem d_Cd_export_8 : decode prog_1_method_7_code 8 = .ok (.iload 5, 2) := by decide +kernel
theorem d_Cd_export_10 : decode prog_1_method_7_code 10 = .ok (.invokestatic 101, 3) := by decide +kernel
theorem d_Cd_export_13 : decode prog_1_method_7_code 13 = .ok (.aload_n 0, 1) := by decide +kernel
theorem d_Cd_export_14 : decode prog_1_method_7_code 14 = .ok (.iload_n 1, 1) := by decide +kernel
theorem d_Cd_export_15 : decode prog_1_method_7_code 15 = .ok (.invokevirtual 40, 3) := by decide +kernel
theorem d_Cd_export_18 : decode prog_1_method_7_code 18 = .ok (.astore 6, 2) := by decide +kernel
theorem d_Cd_export_20 : decode prog_1_method_7_code 20 = .ok (.aload 6, 2) := by decide +kernel
theorem d_Cd_export_22 : decode prog_1_method_7_code 22 = .ok (.iload_n 2, 1) := by decide +kernel
theorem d_Cd_export_23 : decode prog_1_method_7_code 23 = .ok (.invokevirtual 69, 3) := by decide +kernel
theorem d_Cd_export_26 : decode prog_1_method_7_code 26 = .ok (.ifCond .ne 13, 3) := by decide +kernel
theorem d_Cd_export_29 : decode prog_1_method_7_code 29 = .ok (.new 73, 3) := by decide +kernel
theorem d_Cd_export_32 : decode prog_1_method_7_code 32 = .ok (.dup, 1) := by decide +kernel
theorem d_Cd_export_33 : decode prog_1_method_7_code 33 = .ok (.ldc 104, 2) := by decide +kernel
theorem d_Cd_export_35 : decode prog_1_method_7_code 35 = .ok (.invokespecial 77, 3) := by decide +kernel
theorem d_Cd_export_38 : decode prog_1_method_7_code 38 = .ok (.athrow, 1) := by decide +kernel
theorem d_Cd_export_39 : decode prog_1_method_7_code 39 = .ok (.aload_n 0, 1) := by decide +kernel
theorem d_Cd_export_40 : decode prog_1_method_7_code 40 = .ok (.invokevirtual 106, 3) := by decide +kernel
theorem d_Cd_export_43 : decode prog_1_method_7_code 43 = .ok (.aload_n 0, 1) := by decide +kernel
theorem d_Cd_export_44 : decode prog_1_method_7_code 44 = .ok (.new 15, 3) := by decide +kernel
theorem d_Cd_export_47 : decode prog_1_method_7_code 47 = .ok (.dup, 1) := by decide +kernel
theorem d_Cd_export_48 : decode prog_1_method_7_code 48 = .ok (.aload 6, 2) := by decide +kernel
theorem d_Cd_export_50 : decode prog_1_method_7_code 50 = .ok (.iload_n 2, 1) := by decide +kernel
theorem d_Cd_export_51 : decode prog_1_method_7_code 51 = .ok (.aconst_null, 1) := by decide +kernel
theorem d_Cd_export_52 : decode prog_1_method_7_code 52 = .ok (.iload 4, 2) := by decide +kernel
theorem d_Cd_export_54 : decode prog_1_method_7_code 54 = .ok (.iload 5, 2) := by decide +kernel
theorem d_Cd_export_56 : decode prog_1_method_7_code 56 = .ok (.invokespecial 109, 3) := by decide +kernel
theorem d_Cd_export_59 : decode prog_1_method_7_code 59 = .ok (.aload 6, 2) := by decide +kernel
theorem d_Cd_export_61 : decode prog_1_method_7_code 61 = .ok (.iload_n 3, 1) := by decide +kernel
theorem d_Cd_export_62 : decode prog_1_method_7_code 62 = .ok (.invokevirtual 112, 3) := by decide +kernel
theorem d_Cd_export_65 : decode prog_1_method_7_code 65 = .ok (.ireturn, 1) := by decide +kernel
theorem d_Cd_narrow_0 : decode prog_1_method_8_code 0 = .ok (.aload_n 0, 1) := by decide +kernel
theorem d_Cd_narrow_1 : decode prog_1_method_8_code 1 = .ok (.iload_n 1, 1) := by decide +kernel
theorem d_Cd_narrow_2 : decode prog_1_method_8_code 2 = .ok (.iload_n 2, 1) := by decide +kernel
theorem d_Cd_narrow_3 : decode prog_1_method_8_code 3 = .ok (.invokevirtual 97, 3) := by decide +kernel
theorem d_Cd_narrow_6 : decode prog_1_method_8_code 6 = .ok (.iload_n 3, 1) := by decide +kernel
theorem d_Cd_narrow_7 : decode prog_1_method_8_code 7 = .ok (.iload 4, 2) := by decide +kernel
theorem d_Cd_narrow_9 : decode prog_1_method_8_code 9 = .ok (.invokestatic 101, 3) := by decide +kernel
theorem d_Cd_narrow_12 : decode prog_1_method_8_code 12 = .ok (.aload_n 0, 1) := by decide +kernel
theorem d_Cd_narrow_13 : decode prog_1_method_8_code 13 = .ok (.iload_n 1, 1) := by decide +kernel
theorem d_Cd_narrow_14 : decode prog_1_method_8_code 14 = .ok (.invokevirtual 40, 3) := by decide +kernel
theorem d_Cd_narrow_17 : decode prog_1_method_8_code 17 = .ok (.astore 5, 2) := by decide +kernel
theorem d_Cd_narrow_19 : decode prog_1_method_8_code 19 = .ok (.aload 5, 2) := by decide +kernel
theorem d_Cd_narrow_21 : decode prog_1_method_8_code 21 = .ok (.iload_n 2, 1) := by decide +kernel
theorem d_Cd_narrow_22 : decode prog_1_method_8_code 22 = .ok (.invokestatic 89, 3) := by decide +kernel
theorem d_Cd_narrow_25 : decode prog_1_method_8_code 25 = .ok (.astore 6, 2) := by decide +kernel
theorem d_Cd_narrow_27 : decode prog_1_method_8_code 27 = .ok (.aload 6, 2) := by decide +kernel
theorem d_Cd_narrow_29 : decode prog_1_method_8_code 29 = .ok (.getfield 116, 3) := by decide +kernel
theorem d_Cd_narrow_32 : decode prog_1_method_8_code 32 = .ok (.ifCond .eq 13, 3) := by decide +kernel
theorem d_Cd_narrow_35 : decode prog_1_method_8_code 35 = .ok (.new 32, 3) := by decide +kernel
theorem d_Cd_narrow_38 : decode prog_1_method_8_code 38 = .ok (.dup, 1) := by decide +kernel
theorem d_Cd_narrow_39 : decode prog_1_method_8_code 39 = .ok (.ldc 120, 2) := by decide +kernel
theorem d_Cd_narrow_41 : decode prog_1_method_8_code 41 = .ok (.invokespecial 36, 3) := by decide +kernel
theorem d_Cd_narrow_44 : decode prog_1_method_8_code 44 = .ok (.athrow, 1) := by decide +kernel
theorem d_Cd_narrow_45 : decode prog_1_method_8_code 45 = .ok (.aload 6, 2) := by decide +kernel
theorem d_Cd_narrow_47 : decode prog_1_method_8_code 47 = .ok (.iload_n 3, 1) := by decide +kernel
theorem d_Cd_narrow_48 : decode prog_1_method_8_code 48 = .ok (.invokevirtual 122, 3) := by decide +kernel
theorem d_Cd_narrow_51 : decode prog_1_method_8_code 51 = .ok (.ifCond .ne 13, 3) := by decide +kernel
theorem d_Cd_narrow_54 : decode prog_1_method_8_code 54 = .ok (.new 125, 3) := by decide +kernel
theorem d_Cd_narrow_57 : decode prog_1_method_8_code 57 = .ok (.dup, 1) := by decide +kernel
theorem d_Cd_narrow_58 : decode prog_1_method_8_code 58 = .ok (.ldc 127, 2) := by decide +kernel
theorem d_Cd_narrow_60 : decode prog_1_method_8_code 60 = .ok (.invokespecial 129, 3) := by decide +kernel
theorem d_Cd_narrow_63 : decode prog_1_method_8_code 63 = .ok (.athrow, 1) := by decide +kernel
theorem d_Cd_narrow_64 : decode prog_1_method_8_code 64 = .ok (.aload_n 0, 1) := by decide +kernel
theorem d_Cd_narrow_65 : decode prog_1_method_8_code 65 = .ok (.invokevirtual 106, 3) := by decide +kernel
theorem d_Cd_narrow_68 : decode prog_1_method_8_code 68 = .ok (.aload_n 0, 1) := by decide +kernel
theorem d_Cd_narrow_69 : decode prog_1_method_8_code 69 = .ok (.new 15, 3) := by decide +kernel
theorem d_Cd_narrow_72 : decode prog_1_method_8_code 72 = .ok (.dup, 1) := by decide +kernel
theorem d_Cd_narrow_73 : decode prog_1_method_8_code 73 = .ok (.aload 6, 2) := by decide +kernel
theorem d_Cd_narrow_75 : decode prog_1_method_8_code 75 = .ok (.getfield 130, 3) := by decide +kernel
theorem d_Cd_narrow_78 : decode prog_1_method_8_code 78 = .ok (.aload 6, 2) := by decide +kernel
theorem d_Cd_narrow_80 : decode prog_1_method_8_code 80 = .ok (.getfield 134, 3) := by decide +kernel
theorem d_Cd_narrow_83 : decode prog_1_method_8_code 83 = .ok (.aload 6, 2) := by decide +kernel
theorem d_Cd_narrow_85 : decode prog_1_method_8_code 85 = .ok (.iload_n 3, 1) := by decide +kernel
theorem d_Cd_narrow_86 : decode prog_1_method_8_code 86 = .ok (.iload 4, 2) := by decide +kernel
theorem d_Cd_narrow_88 : decode prog_1_method_8_code 88 = .ok (.invokespecial 109, 3) := by decide +kernel
theorem d_Cd_narrow_91 : decode prog_1_method_8_code 91 = .ok (.aload 5, 2) := by decide +kernel
theorem d_Cd_narrow_93 : decode prog_1_method_8_code 93 = .ok (.iload_n 2, 1) := by decide +kernel
theorem d_Cd_narrow_94 : decode prog_1_method_8_code 94 = .ok (.invokevirtual 112, 3) := by decide +kernel
theorem d_Cd_narrow_97 : decode prog_1_method_8_code 97 = .ok (.ireturn, 1) := by decide +kernel
theorem d_Cd_give_0 : decode prog_1_method_9_code 0 = .ok (.aload_n 0, 1) := by decide +kernel
theorem d_Cd_give_1 : decode prog_1_method_9_code 1 = .ok (.iload_n 1, 1) := by decide +kernel
theorem d_Cd_give_2 : decode prog_1_method_9_code 2 = .ok (.iload_n 2, 1) := by decide +kernel
theorem d_Cd_give_3 : decode prog_1_method_9_code 3 = .ok (.invokevirtual 97, 3) := by decide +kernel
theorem d_Cd_give_6 : decode prog_1_method_9_code 6 = .ok (.aload_n 0, 1) := by decide +kernel
theorem d_Cd_give_7 : decode prog_1_method_9_code 7 = .ok (.iload_n 3, 1) := by decide +kernel
theorem d_Cd_give_8 : decode prog_1_method_9_code 8 = .ok (.iload 4, 2) := by decide +kernel
theorem d_Cd_give_10 : decode prog_1_method_9_code 10 = .ok (.invokevirtual 97, 3) := by decide +kernel
theorem d_Cd_give_13 : decode prog_1_method_9_code 13 = .ok (.aload_n 0, 1) := by decide +kernel
theorem d_Cd_give_14 : decode prog_1_method_9_code 14 = .ok (.iload_n 1, 1) := by decide +kernel
theorem d_Cd_give_15 : decode prog_1_method_9_code 15 = .ok (.invokevirtual 40, 3) := by decide +kernel
theorem d_Cd_give_18 : decode prog_1_method_9_code 18 = .ok (.astore 5, 2) := by decide +kernel
theorem d_Cd_give_20 : decode prog_1_method_9_code 20 = .ok (.aload_n 0, 1) := by decide +kernel
theorem d_Cd_give_21 : decode prog_1_method_9_code 21 = .ok (.iload_n 3, 1) := by decide +kernel
theorem d_Cd_give_22 : decode prog_1_method_9_code 22 = .ok (.invokevirtual 40, 3) := by decide +kernel
theorem d_Cd_give_25 : decode prog_1_method_9_code 25 = .ok (.astore 6, 2) := by decide +kernel
theorem d_Cd_give_27 : decode prog_1_method_9_code 27 = .ok (.aload 6, 2) := by decide +kernel
theorem d_Cd_give_29 : decode prog_1_method_9_code 29 = .ok (.iload 4, 2) := by decide +kernel
theorem d_Cd_give_31 : decode prog_1_method_9_code 31 = .ok (.aload 5, 2) := by decide +kernel
theorem d_Cd_give_33 : decode prog_1_method_9_code 33 = .ok (.iload_n 2, 1) := by decide +kernel
theorem d_Cd_give_34 : decode prog_1_method_9_code 34 = .ok (.invokestatic 89, 3) := by decide +kernel
theorem d_Cd_give_37 : decode prog_1_method_9_code 37 = .ok (.invokevirtual 137, 3) := by decide +kernel
theorem d_Cd_give_40 : decode prog_1_method_9_code 40 = .ok (.ireturn, 1) := by decide +kernel
theorem d_Cd_revoke_0 : decode prog_1_method_10_code 0 = .ok (.aload_n 0, 1) := by decide +kernel
theorem d_Cd_revoke_1 : decode prog_1_method_10_code 1 = .ok (.iload_n 1, 1) := by decide +kernel
theorem d_Cd_revoke_2 : decode prog_1_method_10_code 2 = .ok (.iload_n 2, 1) := by decide +kernel
theorem d_Cd_revoke_3 : decode prog_1_method_10_code 3 = .ok (.invokevirtual 97, 3) := by decide +kernel
theorem d_Cd_revoke_6 : decode prog_1_method_10_code 6 = .ok (.aload_n 0, 1) := by decide +kernel
theorem d_Cd_revoke_7 : decode prog_1_method_10_code 7 = .ok (.iload_n 1, 1) := by decide +kernel
theorem d_Cd_revoke_8 : decode prog_1_method_10_code 8 = .ok (.invokevirtual 40, 3) := by decide +kernel
theorem d_Cd_revoke_11 : decode prog_1_method_10_code 11 = .ok (.astore_n 3, 1) := by decide +kernel
theorem d_Cd_revoke_12 : decode prog_1_method_10_code 12 = .ok (.aload_n 3, 1) := by decide +kernel
theorem d_Cd_revoke_13 : decode prog_1_method_10_code 13 = .ok (.iload_n 2, 1) := by decide +kernel
theorem d_Cd_revoke_14 : decode prog_1_method_10_code 14 = .ok (.invokestatic 89, 3) := by decide +kernel
theorem d_Cd_revoke_17 : decode prog_1_method_10_code 17 = .ok (.astore 4, 2) := by decide +kernel
theorem d_Cd_revoke_19 : decode prog_1_method_10_code 19 = .ok (.aload 4, 2) := by decide +kernel
theorem d_Cd_revoke_21 : decode prog_1_method_10_code 21 = .ok (.getfield 130, 3) := by decide +kernel
theorem d_Cd_revoke_24 : decode prog_1_method_10_code 24 = .ok (.aload_n 3, 1) := by decide +kernel
theorem d_Cd_revoke_25 : decode prog_1_method_10_code 25 = .ok (.if_acmp .eq 13, 3) := by decide +kernel
theorem d_Cd_revoke_28 : decode prog_1_method_10_code 28 = .ok (.new 125, 3) := by decide +kernel
theorem d_Cd_revoke_31 : decode prog_1_method_10_code 31 = .ok (.dup, 1) := by decide +kernel
theorem d_Cd_revoke_32 : decode prog_1_method_10_code 32 = .ok (.ldc 141, 2) := by decide +kernel
theorem d_Cd_revoke_34 : decode prog_1_method_10_code 34 = .ok (.invokespecial 129, 3) := by decide +kernel
theorem d_Cd_revoke_37 : decode prog_1_method_10_code 37 = .ok (.athrow, 1) := by decide +kernel
theorem d_Cd_revoke_38 : decode prog_1_method_10_code 38 = .ok (.aload 4, 2) := by decide +kernel
theorem d_Cd_revoke_40 : decode prog_1_method_10_code 40 = .ok (.iconst 1, 1) := by decide +kernel
theorem d_Cd_revoke_41 : decode prog_1_method_10_code 41 = .ok (.putfield 143, 3) := by decide +kernel
theorem d_Cd_revoke_44 : decode prog_1_method_10_code 44 = .ok (.aload_n 0, 1) := by decide +kernel
theorem d_Cd_revoke_45 : decode prog_1_method_10_code 45 = .ok (.invokevirtual 146, 3) := by decide +kernel
theorem d_Cd_revoke_48 : decode prog_1_method_10_code 48 = .ok (.ireturn, 1) := by decide +kernel
theorem d_Cd_read_0 : decode prog_1_method_11_code 0 = .ok (.aload_n 0, 1) := by decide +kernel
theorem d_Cd_read_1 : decode prog_1_method_11_code 1 = .ok (.iload_n 1, 1) := by decide +kernel
theorem d_Cd_read_2 : decode prog_1_method_11_code 2 = .ok (.iload_n 2, 1) := by decide +kernel
theorem d_Cd_read_3 : decode prog_1_method_11_code 3 = .ok (.iconst 1, 1) := by decide +kernel
theorem d_Cd_read_4 : decode prog_1_method_11_code 4 = .ok (.invokevirtual 149, 3) := by decide +kernel
theorem d_Cd_read_7 : decode prog_1_method_11_code 7 = .ok (.astore 4, 2) := by decide +kernel
theorem d_Cd_read_9 : decode prog_1_method_11_code 9 = .ok (.aload 4, 2) := by decide +kernel
theorem d_Cd_read_11 : decode prog_1_method_11_code 11 = .ok (.iload_n 3, 1) := by decide +kernel
theorem d_Cd_read_12 : decode prog_1_method_11_code 12 = .ok (.invokestatic 153, 3) := by decide +kernel
theorem d_Cd_read_15 : decode prog_1_method_11_code 15 = .ok (.astore 5, 2) := by decide +kernel
theorem d_Cd_read_17 : decode prog_1_method_11_code 17 = .ok (.aload 5, 2) := by decide +kernel
theorem d_Cd_read_19 : decode prog_1_method_11_code 19 = .ok (.invokevirtual 157, 3) := by decide +kernel
theorem d_Cd_read_22 : decode prog_1_method_11_code 22 = .ok (.ifCond .ne 13, 3) := by decide +kernel
theorem d_Cd_read_25 : decode prog_1_method_11_code 25 = .ok (.new 48, 3) := by decide +kernel
theorem d_Cd_read_28 : decode prog_1_method_11_code 28 = .ok (.dup, 1) := by decide +kernel
theorem d_Cd_read_29 : decode prog_1_method_11_code 29 = .ok (.ldc 161, 2) := by decide +kernel
theorem d_Cd_read_31 : decode prog_1_method_11_code 31 = .ok (.invokespecial 52, 3) := by decide +kernel
theorem d_Cd_read_34 : decode prog_1_method_11_code 34 = .ok (.athrow, 1) := by decide +kernel
theorem d_Cd_read_35 : decode prog_1_method_11_code 35 = .ok (.aload 4, 2) := by decide +kernel
theorem d_Cd_read_37 : decode prog_1_method_11_code 37 = .ok (.invokevirtual 163, 3) := by decide +kernel
theorem d_Cd_read_40 : decode prog_1_method_11_code 40 = .ok (.aload 5, 2) := by decide +kernel
theorem d_Cd_read_42 : decode prog_1_method_11_code 42 = .ok (.getfield 60, 3) := by decide +kernel
theorem d_Cd_read_45 : decode prog_1_method_11_code 45 = .ok (.ireturn, 1) := by decide +kernel
theorem d_Cd_write_0 : decode prog_1_method_12_code 0 = .ok (.aload_n 0, 1) := by decide +kernel
theorem d_Cd_write_1 : decode prog_1_method_12_code 1 = .ok (.iload_n 1, 1) := by decide +kernel
theorem d_Cd_write_2 : decode prog_1_method_12_code 2 = .ok (.iload_n 2, 1) := by decide +kernel
theorem d_Cd_write_3 : decode prog_1_method_12_code 3 = .ok (.iconst 2, 1) := by decide +kernel
theorem d_Cd_write_4 : decode prog_1_method_12_code 4 = .ok (.invokevirtual 149, 3) := by decide +kernel
theorem d_Cd_write_7 : decode prog_1_method_12_code 7 = .ok (.astore 5, 2) := by decide +kernel
theorem d_Cd_write_9 : decode prog_1_method_12_code 9 = .ok (.aload 5, 2) := by decide +kernel
theorem d_Cd_write_11 : decode prog_1_method_12_code 11 = .ok (.iload_n 3, 1) := by decide +kernel
theorem d_Cd_write_12 : decode prog_1_method_12_code 12 = .ok (.invokestatic 153, 3) := by decide +kernel
theorem d_Cd_write_15 : decode prog_1_method_12_code 15 = .ok (.iload 4, 2) := by decide +kernel
theorem d_Cd_write_17 : decode prog_1_method_12_code 17 = .ok (.invokevirtual 65, 3) := by decide +kernel
theorem d_Cd_write_20 : decode prog_1_method_12_code 20 = .ok (.aload 5, 2) := by decide +kernel
theorem d_Cd_write_22 : decode prog_1_method_12_code 22 = .ok (.invokevirtual 163, 3) := by decide +kernel
theorem d_Cd_write_25 : decode prog_1_method_12_code 25 = .ok (.aload 5, 2) := by decide +kernel
theorem d_Cd_write_27 : decode prog_1_method_12_code 27 = .ok (.getfield 166, 3) := by decide +kernel
theorem d_Cd_write_30 : decode prog_1_method_12_code 30 = .ok (.ireturn, 1) := by decide +kernel
theorem d_Cd_pass_0 : decode prog_1_method_13_code 0 = .ok (.aload_n 0, 1) := by decide +kernel
theorem d_Cd_pass_1 : decode prog_1_method_13_code 1 = .ok (.iload_n 1, 1) := by decide +kernel
theorem d_Cd_pass_2 : decode prog_1_method_13_code 2 = .ok (.iload_n 2, 1) := by decide +kernel
theorem d_Cd_pass_3 : decode prog_1_method_13_code 3 = .ok (.iconst 4, 1) := by decide +kernel
theorem d_Cd_pass_4 : decode prog_1_method_13_code 4 = .ok (.invokevirtual 149, 3) := by decide +kernel
theorem d_Cd_pass_7 : decode prog_1_method_13_code 7 = .ok (.astore 5, 2) := by decide +kernel
theorem d_Cd_pass_9 : decode prog_1_method_13_code 9 = .ok (.aload 5, 2) := by decide +kernel
theorem d_Cd_pass_11 : decode prog_1_method_13_code 11 = .ok (.iload_n 3, 1) := by decide +kernel
theorem d_Cd_pass_12 : decode prog_1_method_13_code 12 = .ok (.invokestatic 153, 3) := by decide +kernel
theorem d_Cd_pass_15 : decode prog_1_method_13_code 15 = .ok (.astore 6, 2) := by decide +kernel
theorem d_Cd_pass_17 : decode prog_1_method_13_code 17 = .ok (.aload_n 0, 1) := by decide +kernel
theorem d_Cd_pass_18 : decode prog_1_method_13_code 18 = .ok (.iload_n 1, 1) := by decide +kernel
theorem d_Cd_pass_19 : decode prog_1_method_13_code 19 = .ok (.invokevirtual 40, 3) := by decide +kernel
theorem d_Cd_pass_22 : decode prog_1_method_13_code 22 = .ok (.astore 7, 2) := by decide +kernel
theorem d_Cd_pass_24 : decode prog_1_method_13_code 24 = .ok (.aload 7, 2) := by decide +kernel
theorem d_Cd_pass_26 : decode prog_1_method_13_code 26 = .ok (.iload 4, 2) := by decide +kernel
theorem d_Cd_pass_28 : decode prog_1_method_13_code 28 = .ok (.invokevirtual 69, 3) := by decide +kernel
theorem d_Cd_pass_31 : decode prog_1_method_13_code 31 = .ok (.ifCond .ne 13, 3) := by decide +kernel
theorem d_Cd_pass_34 : decode prog_1_method_13_code 34 = .ok (.new 73, 3) := by decide +kernel
theorem d_Cd_pass_37 : decode prog_1_method_13_code 37 = .ok (.dup, 1) := by decide +kernel
theorem d_Cd_pass_38 : decode prog_1_method_13_code 38 = .ok (.ldc 169, 2) := by decide +kernel
theorem d_Cd_pass_40 : decode prog_1_method_13_code 40 = .ok (.invokespecial 77, 3) := by decide +kernel
theorem d_Cd_pass_43 : decode prog_1_method_13_code 43 = .ok (.athrow, 1) := by decide +kernel
theorem d_Cd_pass_44 : decode prog_1_method_13_code 44 = .ok (.aload_n 0, 1) := by decide +kernel
theorem d_Cd_pass_45 : decode prog_1_method_13_code 45 = .ok (.getfield 24, 3) := by decide +kernel
theorem d_Cd_pass_48 : decode prog_1_method_13_code 48 = .ok (.aload 7, 2) := by decide +kernel
theorem d_Cd_pass_50 : decode prog_1_method_13_code 50 = .ok (.iload 4, 2) := by decide +kernel
theorem d_Cd_pass_52 : decode prog_1_method_13_code 52 = .ok (.invokevirtual 171, 3) := by decide +kernel
theorem d_Cd_pass_55 : decode prog_1_method_13_code 55 = .ok (.aload 5, 2) := by decide +kernel
theorem d_Cd_pass_57 : decode prog_1_method_13_code 57 = .ok (.getfield 130, 3) := by decide +kernel
theorem d_Cd_pass_60 : decode prog_1_method_13_code 60 = .ok (.invokevirtual 44, 3) := by decide +kernel
theorem d_Cd_pass_63 : decode prog_1_method_13_code 63 = .ok (.aload_n 0, 1) := by decide +kernel
theorem d_Cd_pass_64 : decode prog_1_method_13_code 64 = .ok (.getfield 24, 3) := by decide +kernel
theorem d_Cd_pass_67 : decode prog_1_method_13_code 67 = .ok (.getfield 175, 3) := by decide +kernel
theorem d_Cd_pass_70 : decode prog_1_method_13_code 70 = .ok (.iadd, 1) := by decide +kernel
theorem d_Cd_pass_71 : decode prog_1_method_13_code 71 = .ok (.bipush 12, 2) := by decide +kernel
theorem d_Cd_pass_73 : decode prog_1_method_13_code 73 = .ok (.if_icmp .le 13, 3) := by decide +kernel
theorem d_Cd_pass_76 : decode prog_1_method_13_code 76 = .ok (.new 48, 3) := by decide +kernel
theorem d_Cd_pass_79 : decode prog_1_method_13_code 79 = .ok (.dup, 1) := by decide +kernel
theorem d_Cd_pass_80 : decode prog_1_method_13_code 80 = .ok (.ldc 178, 2) := by decide +kernel
theorem d_Cd_pass_82 : decode prog_1_method_13_code 82 = .ok (.invokespecial 52, 3) := by decide +kernel
theorem d_Cd_pass_85 : decode prog_1_method_13_code 85 = .ok (.athrow, 1) := by decide +kernel
theorem d_Cd_pass_86 : decode prog_1_method_13_code 86 = .ok (.aload_n 0, 1) := by decide +kernel
theorem d_Cd_pass_87 : decode prog_1_method_13_code 87 = .ok (.getfield 24, 3) := by decide +kernel
theorem d_Cd_pass_90 : decode prog_1_method_13_code 90 = .ok (.aload 5, 2) := by decide +kernel
theorem d_Cd_pass_92 : decode prog_1_method_13_code 92 = .ok (.getfield 130, 3) := by decide +kernel
theorem d_Cd_pass_95 : decode prog_1_method_13_code 95 = .ok (.invokevirtual 180, 3) := by decide +kernel
theorem d_Cd_pass_98 : decode prog_1_method_13_code 98 = .ok (.aload 6, 2) := by decide +kernel
theorem d_Cd_pass_100 : decode prog_1_method_13_code 100 = .ok (.aload_n 0, 1) := by decide +kernel
theorem d_Cd_pass_101 : decode prog_1_method_13_code 101 = .ok (.getfield 24, 3) := by decide +kernel
theorem d_Cd_pass_104 : decode prog_1_method_13_code 104 = .ok (.getfield 184, 3) := by decide +kernel
theorem d_Cd_pass_107 : decode prog_1_method_13_code 107 = .ok (.iload 4, 2) := by decide +kernel
theorem d_Cd_pass_109 : decode prog_1_method_13_code 109 = .ok (.iaload, 1) := by decide +kernel
theorem d_Cd_pass_110 : decode prog_1_method_13_code 110 = .ok (.invokevirtual 78, 3) := by decide +kernel
theorem d_Cd_pass_113 : decode prog_1_method_13_code 113 = .ok (.aload 5, 2) := by decide +kernel
theorem d_Cd_pass_115 : decode prog_1_method_13_code 115 = .ok (.invokevirtual 163, 3) := by decide +kernel
theorem d_Cd_pass_118 : decode prog_1_method_13_code 118 = .ok (.aload_n 0, 1) := by decide +kernel
theorem d_Cd_pass_119 : decode prog_1_method_13_code 119 = .ok (.getfield 24, 3) := by decide +kernel
theorem d_Cd_pass_122 : decode prog_1_method_13_code 122 = .ok (.getfield 175, 3) := by decide +kernel
theorem d_Cd_pass_125 : decode prog_1_method_13_code 125 = .ok (.ireturn, 1) := by decide +kernel
theorem d_Cd_take_0 : decode prog_1_method_14_code 0 = .ok (.aload_n 0, 1) := by decide +kernel
theorem d_Cd_take_1 : decode prog_1_method_14_code 1 = .ok (.iload_n 1, 1) := by decide +kernel
theorem d_Cd_take_2 : decode prog_1_method_14_code 2 = .ok (.iload_n 2, 1) := by decide +kernel
theorem d_Cd_take_3 : decode prog_1_method_14_code 3 = .ok (.bipush 8, 2) := by decide +kernel
theorem d_Cd_take_5 : decode prog_1_method_14_code 5 = .ok (.invokevirtual 149, 3) := by decide +kernel
theorem d_Cd_take_8 : decode prog_1_method_14_code 8 = .ok (.astore 5, 2) := by decide +kernel
theorem d_Cd_take_10 : decode prog_1_method_14_code 10 = .ok (.aload 5, 2) := by decide +kernel
theorem d_Cd_take_12 : decode prog_1_method_14_code 12 = .ok (.iload_n 3, 1) := by decide +kernel
theorem d_Cd_take_13 : decode prog_1_method_14_code 13 = .ok (.invokestatic 153, 3) := by decide +kernel
theorem d_Cd_take_16 : decode prog_1_method_14_code 16 = .ok (.astore 6, 2) := by decide +kernel
theorem d_Cd_take_18 : decode prog_1_method_14_code 18 = .ok (.iload 4, 2) := by decide +kernel
theorem d_Cd_take_20 : decode prog_1_method_14_code 20 = .ok (.invokestatic 81, 3) := by decide +kernel
theorem d_Cd_take_23 : decode prog_1_method_14_code 23 = .ok (.ifCond .ne 13, 3) := by decide +kernel
theorem d_Cd_take_26 : decode prog_1_method_14_code 26 = .ok (.new 84, 3) := by decide +kernel
theorem d_Cd_take_29 : decode prog_1_method_14_code 29 = .ok (.dup, 1) := by decide +kernel
theorem d_Cd_take_30 : decode prog_1_method_14_code 30 = .ok (.ldc 86, 2) := by decide +kernel
theorem d_Cd_take_32 : decode prog_1_method_14_code 32 = .ok (.invokespecial 88, 3) := by decide +kernel
theorem d_Cd_take_35 : decode prog_1_method_14_code 35 = .ok (.athrow, 1) := by decide +kernel
theorem d_Cd_take_36 : decode prog_1_method_14_code 36 = .ok (.aload 6, 2) := by decide +kernel
theorem d_Cd_take_38 : decode prog_1_method_14_code 38 = .ok (.getfield 188, 3) := by decide +kernel
theorem d_Cd_take_41 : decode prog_1_method_14_code 41 = .ok (.ifnonnull 13, 3) := by decide +kernel
theorem d_Cd_take_44 : decode prog_1_method_14_code 44 = .ok (.new 48, 3) := by decide +kernel
theorem d_Cd_take_47 : decode prog_1_method_14_code 47 = .ok (.dup, 1) := by decide +kernel
theorem d_Cd_take_48 : decode prog_1_method_14_code 48 = .ok (.ldc 192, 2) := by decide +kernel
theorem d_Cd_take_50 : decode prog_1_method_14_code 50 = .ok (.invokespecial 52, 3) := by decide +kernel
theorem d_Cd_take_53 : decode prog_1_method_14_code 53 = .ok (.athrow, 1) := by decide +kernel
theorem d_Cd_take_54 : decode prog_1_method_14_code 54 = .ok (.aload 5, 2) := by decide +kernel
theorem d_Cd_take_56 : decode prog_1_method_14_code 56 = .ok (.invokevirtual 163, 3) := by decide +kernel
theorem d_Cd_take_59 : decode prog_1_method_14_code 59 = .ok (.aload_n 0, 1) := by decide +kernel
theorem d_Cd_take_60 : decode prog_1_method_14_code 60 = .ok (.iload_n 1, 1) := by decide +kernel
theorem d_Cd_take_61 : decode prog_1_method_14_code 61 = .ok (.invokevirtual 40, 3) := by decide +kernel
theorem d_Cd_take_64 : decode prog_1_method_14_code 64 = .ok (.iload 4, 2) := by decide +kernel
theorem d_Cd_take_66 : decode prog_1_method_14_code 66 = .ok (.aload 6, 2) := by decide +kernel
theorem d_Cd_take_68 : decode prog_1_method_14_code 68 = .ok (.getfield 188, 3) := by decide +kernel
theorem d_Cd_take_71 : decode prog_1_method_14_code 71 = .ok (.invokevirtual 137, 3) := by decide +kernel
theorem d_Cd_take_74 : decode prog_1_method_14_code 74 = .ok (.ireturn, 1) := by decide +kernel
theorem d_Cd_free_0 : decode prog_1_method_15_code 0 = .ok (.aload_n 0, 1) := by decide +kernel
theorem d_Cd_free_1 : decode prog_1_method_15_code 1 = .ok (.iload_n 1, 1) := by decide +kernel
theorem d_Cd_free_2 : decode prog_1_method_15_code 2 = .ok (.iload_n 2, 1) := by decide +kernel
theorem d_Cd_free_3 : decode prog_1_method_15_code 3 = .ok (.bipush 16, 2) := by decide +kernel
theorem d_Cd_free_5 : decode prog_1_method_15_code 5 = .ok (.invokevirtual 149, 3) := by decide +kernel
theorem d_Cd_free_8 : decode prog_1_method_15_code 8 = .ok (.astore_n 3, 1) := by decide +kernel
theorem d_Cd_free_9 : decode prog_1_method_15_code 9 = .ok (.aload_n 3, 1) := by decide +kernel
theorem d_Cd_free_10 : decode prog_1_method_15_code 10 = .ok (.invokevirtual 163, 3) := by decide +kernel
theorem d_Cd_free_13 : decode prog_1_method_15_code 13 = .ok (.aload_n 3, 1) := by decide +kernel
theorem d_Cd_free_14 : decode prog_1_method_15_code 14 = .ok (.getfield 130, 3) := by decide +kernel
theorem d_Cd_free_17 : decode prog_1_method_15_code 17 = .ok (.aload_n 3, 1) := by decide +kernel
theorem d_Cd_free_18 : decode prog_1_method_15_code 18 = .ok (.getfield 134, 3) := by decide +kernel
theorem d_Cd_free_21 : decode prog_1_method_15_code 21 = .ok (.invokevirtual 194, 3) := by decide +kernel
theorem d_Cd_free_24 : decode prog_1_method_15_code 24 = .ok (.istore 4, 2) := by decide +kernel
theorem d_Cd_free_26 : decode prog_1_method_15_code 26 = .ok (.aload_n 0, 1) := by decide +kernel
theorem d_Cd_free_27 : decode prog_1_method_15_code 27 = .ok (.invokevirtual 146, 3) := by decide +kernel
theorem d_Cd_free_30 : decode prog_1_method_15_code 30 = .ok (.pop, 1) := by decide +kernel
theorem d_Cd_free_31 : decode prog_1_method_15_code 31 = .ok (.iload 4, 2) := by decide +kernel
theorem d_Cd_free_33 : decode prog_1_method_15_code 33 = .ok (.ireturn, 1) := by decide +kernel
theorem d_Cd_end_0 : decode prog_1_method_16_code 0 = .ok (.aload_n 0, 1) := by decide +kernel
theorem d_Cd_end_1 : decode prog_1_method_16_code 1 = .ok (.iload_n 1, 1) := by decide +kernel
theorem d_Cd_end_2 : decode prog_1_method_16_code 2 = .ok (.invokevirtual 40, 3) := by decide +kernel
theorem d_Cd_end_5 : decode prog_1_method_16_code 5 = .ok (.invokevirtual 198, 3) := by decide +kernel
theorem d_Cd_end_8 : decode prog_1_method_16_code 8 = .ok (.aload_n 0, 1) := by decide +kernel
theorem d_Cd_end_9 : decode prog_1_method_16_code 9 = .ok (.invokevirtual 146, 3) := by decide +kernel
theorem d_Cd_end_12 : decode prog_1_method_16_code 12 = .ok (.ireturn, 1) := by decide +kernel
theorem d_Cd_holds_0 : decode prog_1_method_17_code 0 = .ok (.aload_n 0, 1) := by decide +kernel
theorem d_Cd_holds_1 : decode prog_1_method_17_code 1 = .ok (.iload_n 1, 1) := by decide +kernel
theorem d_Cd_holds_2 : decode prog_1_method_17_code 2 = .ok (.iload_n 2, 1) := by decide +kernel
theorem d_Cd_holds_3 : decode prog_1_method_17_code 3 = .ok (.iload_n 3, 1) := by decide +kernel
theorem d_Cd_holds_4 : decode prog_1_method_17_code 4 = .ok (.invokevirtual 201, 3) := by decide +kernel
theorem d_Cd_holds_7 : decode prog_1_method_17_code 7 = .ok (.ifCond .ne 5, 3) := by decide +kernel
theorem d_Cd_holds_10 : decode prog_1_method_17_code 10 = .ok (.iconst (-1), 1) := by decide +kernel
theorem d_Cd_holds_11 : decode prog_1_method_17_code 11 = .ok (.ireturn, 1) := by decide +kernel
theorem d_Cd_holds_12 : decode prog_1_method_17_code 12 = .ok (.aload_n 0, 1) := by decide +kernel
theorem d_Cd_holds_13 : decode prog_1_method_17_code 13 = .ok (.getfield 11, 3) := by decide +kernel
theorem d_Cd_holds_16 : decode prog_1_method_17_code 16 = .ok (.iload_n 1, 1) := by decide +kernel
theorem d_Cd_holds_17 : decode prog_1_method_17_code 17 = .ok (.aaload, 1) := by decide +kernel
theorem d_Cd_holds_18 : decode prog_1_method_17_code 18 = .ok (.getfield 205, 3) := by decide +kernel
theorem d_Cd_holds_21 : decode prog_1_method_17_code 21 = .ok (.iload_n 2, 1) := by decide +kernel
theorem d_Cd_holds_22 : decode prog_1_method_17_code 22 = .ok (.aaload, 1) := by decide +kernel
theorem d_Cd_holds_23 : decode prog_1_method_17_code 23 = .ok (.getfield 209, 3) := by decide +kernel
theorem d_Cd_holds_26 : decode prog_1_method_17_code 26 = .ok (.iload_n 3, 1) := by decide +kernel
theorem d_Cd_holds_27 : decode prog_1_method_17_code 27 = .ok (.aaload, 1) := by decide +kernel
theorem d_Cd_holds_28 : decode prog_1_method_17_code 28 = .ok (.astore 4, 2) := by decide +kernel
theorem d_Cd_holds_30 : decode prog_1_method_17_code 30 = .ok (.aload 4, 2) := by decide +kernel
theorem d_Cd_holds_32 : decode prog_1_method_17_code 32 = .ok (.getfield 188, 3) := by decide +kernel
theorem d_Cd_holds_35 : decode prog_1_method_17_code 35 = .ok (.ifnull 20, 3) := by decide +kernel
theorem d_Cd_holds_38 : decode prog_1_method_17_code 38 = .ok (.aload 4, 2) := by decide +kernel
theorem d_Cd_holds_40 : decode prog_1_method_17_code 40 = .ok (.getfield 188, 3) := by decide +kernel
theorem d_Cd_holds_43 : decode prog_1_method_17_code 43 = .ok (.getfield 116, 3) := by decide +kernel
theorem d_Cd_holds_46 : decode prog_1_method_17_code 46 = .ok (.ifCond .eq 7, 3) := by decide +kernel
theorem d_Cd_holds_49 : decode prog_1_method_17_code 49 = .ok (.iconst 3, 1) := by decide +kernel
theorem d_Cd_holds_50 : decode prog_1_method_17_code 50 = .ok (.goto 4, 3) := by decide +kernel
theorem d_Cd_holds_53 : decode prog_1_method_17_code 53 = .ok (.iconst 2, 1) := by decide +kernel
theorem d_Cd_holds_54 : decode prog_1_method_17_code 54 = .ok (.ireturn, 1) := by decide +kernel
theorem d_Cd_holds_55 : decode prog_1_method_17_code 55 = .ok (.aload 4, 2) := by decide +kernel
theorem d_Cd_holds_57 : decode prog_1_method_17_code 57 = .ok (.invokevirtual 215, 3) := by decide +kernel
theorem d_Cd_holds_60 : decode prog_1_method_17_code 60 = .ok (.ifCond .eq 7, 3) := by decide +kernel
theorem d_Cd_holds_63 : decode prog_1_method_17_code 63 = .ok (.iconst 1, 1) := by decide +kernel
theorem d_Cd_holds_64 : decode prog_1_method_17_code 64 = .ok (.goto 4, 3) := by decide +kernel
theorem d_Cd_holds_67 : decode prog_1_method_17_code 67 = .ok (.iconst 0, 1) := by decide +kernel
theorem d_Cd_holds_68 : decode prog_1_method_17_code 68 = .ok (.ireturn, 1) := by decide +kernel
theorem d_Cd_linked_0 : decode prog_1_method_18_code 0 = .ok (.aload_n 0, 1) := by decide +kernel
theorem d_Cd_linked_1 : decode prog_1_method_18_code 1 = .ok (.iload_n 1, 1) := by decide +kernel
theorem d_Cd_linked_2 : decode prog_1_method_18_code 2 = .ok (.iload_n 2, 1) := by decide +kernel
theorem d_Cd_linked_3 : decode prog_1_method_18_code 3 = .ok (.iload_n 3, 1) := by decide +kernel
theorem d_Cd_linked_4 : decode prog_1_method_18_code 4 = .ok (.invokevirtual 201, 3) := by decide +kernel
theorem d_Cd_linked_7 : decode prog_1_method_18_code 7 = .ok (.ifCond .eq 25, 3) := by decide +kernel
theorem d_Cd_linked_10 : decode prog_1_method_18_code 10 = .ok (.aload_n 0, 1) := by decide +kernel
theorem d_Cd_linked_11 : decode prog_1_method_18_code 11 = .ok (.getfield 11, 3) := by decide +kernel
theorem d_Cd_linked_14 : decode prog_1_method_18_code 14 = .ok (.iload_n 1, 1) := by decide +kernel
theorem d_Cd_linked_15 : decode prog_1_method_18_code 15 = .ok (.aaload, 1) := by decide +kernel
theorem d_Cd_linked_16 : decode prog_1_method_18_code 16 = .ok (.getfield 205, 3) := by decide +kernel
theorem d_Cd_linked_19 : decode prog_1_method_18_code 19 = .ok (.iload_n 2, 1) := by decide +kernel
theorem d_Cd_linked_20 : decode prog_1_method_18_code 20 = .ok (.aaload, 1) := by decide +kernel
theorem d_Cd_linked_21 : decode prog_1_method_18_code 21 = .ok (.getfield 209, 3) := by decide +kernel
theorem d_Cd_linked_24 : decode prog_1_method_18_code 24 = .ok (.iload_n 3, 1) := by decide +kernel
theorem d_Cd_linked_25 : decode prog_1_method_18_code 25 = .ok (.aaload, 1) := by decide +kernel
theorem d_Cd_linked_26 : decode prog_1_method_18_code 26 = .ok (.getfield 218, 3) := by decide +kernel
theorem d_Cd_linked_29 : decode prog_1_method_18_code 29 = .ok (.goto 4, 3) := by decide +kernel
theorem d_Cd_linked_32 : decode prog_1_method_18_code 32 = .ok (.iconst (-1), 1) := by decide +kernel
theorem d_Cd_linked_33 : decode prog_1_method_18_code 33 = .ok (.ireturn, 1) := by decide +kernel
theorem d_Cd_slot_0 : decode prog_1_method_19_code 0 = .ok (.aload_n 0, 1) := by decide +kernel
theorem d_Cd_slot_1 : decode prog_1_method_19_code 1 = .ok (.iload_n 1, 1) := by decide +kernel
theorem d_Cd_slot_2 : decode prog_1_method_19_code 2 = .ok (.invokevirtual 221, 3) := by decide +kernel
theorem d_Cd_slot_5 : decode prog_1_method_19_code 5 = .ok (.ifCond .eq 22, 3) := by decide +kernel
theorem d_Cd_slot_8 : decode prog_1_method_19_code 8 = .ok (.aload_n 0, 1) := by decide +kernel
theorem d_Cd_slot_9 : decode prog_1_method_19_code 9 = .ok (.getfield 11, 3) := by decide +kernel
theorem d_Cd_slot_12 : decode prog_1_method_19_code 12 = .ok (.iload_n 1, 1) := by decide +kernel
theorem d_Cd_slot_13 : decode prog_1_method_19_code 13 = .ok (.aaload, 1) := by decide +kernel
theorem d_Cd_slot_14 : decode prog_1_method_19_code 14 = .ok (.getfield 224, 3) := by decide +kernel
theorem d_Cd_slot_17 : decode prog_1_method_19_code 17 = .ok (.ifCond .ne 10, 3) := by decide +kernel
theorem d_Cd_slot_20 : decode prog_1_method_19_code 20 = .ok (.iload_n 2, 1) := by decide +kernel
theorem d_Cd_slot_21 : decode prog_1_method_19_code 21 = .ok (.invokestatic 81, 3) := by decide +kernel
theorem d_Cd_slot_24 : decode prog_1_method_19_code 24 = .ok (.ifCond .ne 5, 3) := by decide +kernel
theorem d_Cd_slot_27 : decode prog_1_method_19_code 27 = .ok (.iconst (-1), 1) := by decide +kernel
theorem d_Cd_slot_28 : decode prog_1_method_19_code 28 = .ok (.ireturn, 1) := by decide +kernel
theorem d_Cd_slot_29 : decode prog_1_method_19_code 29 = .ok (.aload_n 0, 1) := by decide +kernel
theorem d_Cd_slot_30 : decode prog_1_method_19_code 30 = .ok (.getfield 11, 3) := by decide +kernel
theorem d_Cd_slot_33 : decode prog_1_method_19_code 33 = .ok (.iload_n 1, 1) := by decide +kernel
theorem d_Cd_slot_34 : decode prog_1_method_19_code 34 = .ok (.aaload, 1) := by decide +kernel
theorem d_Cd_slot_35 : decode prog_1_method_19_code 35 = .ok (.getfield 227, 3) := by decide +kernel
theorem d_Cd_slot_38 : decode prog_1_method_19_code 38 = .ok (.iload_n 2, 1) := by decide +kernel
theorem d_Cd_slot_39 : decode prog_1_method_19_code 39 = .ok (.aaload, 1) := by decide +kernel
theorem d_Cd_slot_40 : decode prog_1_method_19_code 40 = .ok (.astore_n 3, 1) := by decide +kernel
theorem d_Cd_slot_41 : decode prog_1_method_19_code 41 = .ok (.aload_n 3, 1) := by decide +kernel
theorem d_Cd_slot_42 : decode prog_1_method_19_code 42 = .ok (.ifnonnull 5, 3) := by decide +kernel
theorem d_Cd_slot_45 : decode prog_1_method_19_code 45 = .ok (.iconst 0, 1) := by decide +kernel
theorem d_Cd_slot_46 : decode prog_1_method_19_code 46 = .ok (.ireturn, 1) := by decide +kernel
theorem d_Cd_slot_47 : decode prog_1_method_19_code 47 = .ok (.aload_n 3, 1) := by decide +kernel
theorem d_Cd_slot_48 : decode prog_1_method_19_code 48 = .ok (.getfield 116, 3) := by decide +kernel
theorem d_Cd_slot_51 : decode prog_1_method_19_code 51 = .ok (.ifCond .eq 7, 3) := by decide +kernel
theorem d_Cd_slot_54 : decode prog_1_method_19_code 54 = .ok (.iconst 2, 1) := by decide +kernel
theorem d_Cd_slot_55 : decode prog_1_method_19_code 55 = .ok (.goto 4, 3) := by decide +kernel
theorem d_Cd_slot_58 : decode prog_1_method_19_code 58 = .ok (.iconst 1, 1) := by decide +kernel
theorem d_Cd_slot_59 : decode prog_1_method_19_code 59 = .ok (.ireturn, 1) := by decide +kernel
theorem d_Cd_count_0 : decode prog_1_method_20_code 0 = .ok (.iload_n 1, 1) := by decide +kernel
theorem d_Cd_count_1 : decode prog_1_method_20_code 1 = .ok (.tableswitch 51 0 3 #[31, 36, 41, 46], 31) := by decide +kernel
theorem d_Cd_count_32 : decode prog_1_method_20_code 32 = .ok (.aload_n 0, 1) := by decide +kernel
theorem d_Cd_count_33 : decode prog_1_method_20_code 33 = .ok (.getfield 28, 3) := by decide +kernel
theorem d_Cd_count_36 : decode prog_1_method_20_code 36 = .ok (.ireturn, 1) := by decide +kernel
theorem d_Cd_count_37 : decode prog_1_method_20_code 37 = .ok (.aload_n 0, 1) := by decide +kernel
theorem d_Cd_count_38 : decode prog_1_method_20_code 38 = .ok (.invokevirtual 230, 3) := by decide +kernel
theorem d_Cd_count_41 : decode prog_1_method_20_code 41 = .ok (.ireturn, 1) := by decide +kernel
theorem d_Cd_count_42 : decode prog_1_method_20_code 42 = .ok (.aload_n 0, 1) := by decide +kernel
theorem d_Cd_count_43 : decode prog_1_method_20_code 43 = .ok (.getfield 233, 3) := by decide +kernel
theorem d_Cd_count_46 : decode prog_1_method_20_code 46 = .ok (.ireturn, 1) := by decide +kernel
theorem d_Cd_count_47 : decode prog_1_method_20_code 47 = .ok (.aload_n 0, 1) := by decide +kernel
theorem d_Cd_count_48 : decode prog_1_method_20_code 48 = .ok (.invokevirtual 236, 3) := by decide +kernel
theorem d_Cd_count_51 : decode prog_1_method_20_code 51 = .ok (.ireturn, 1) := by decide +kernel
theorem d_Cd_count_52 : decode prog_1_method_20_code 52 = .ok (.iload_n 1, 1) := by decide +kernel
theorem d_Cd_count_53 : decode prog_1_method_20_code 53 = .ok (.iconst 4, 1) := by decide +kernel
theorem d_Cd_count_54 : decode prog_1_method_20_code 54 = .ok (.if_icmp .lt 19, 3) := by decide +kernel
theorem d_Cd_count_57 : decode prog_1_method_20_code 57 = .ok (.iload_n 1, 1) := by decide +kernel
theorem d_Cd_count_58 : decode prog_1_method_20_code 58 = .ok (.bipush 10, 2) := by decide +kernel
theorem d_Cd_count_60 : decode prog_1_method_20_code 60 = .ok (.if_icmp .ge 13, 3) := by decide +kernel
theorem d_Cd_count_63 : decode prog_1_method_20_code 63 = .ok (.aload_n 0, 1) := by decide +kernel
theorem d_Cd_count_64 : decode prog_1_method_20_code 64 = .ok (.iload_n 1, 1) := by decide +kernel
theorem d_Cd_count_65 : decode prog_1_method_20_code 65 = .ok (.iconst 4, 1) := by decide +kernel
theorem d_Cd_count_66 : decode prog_1_method_20_code 66 = .ok (.isub, 1) := by decide +kernel
theorem d_Cd_count_67 : decode prog_1_method_20_code 67 = .ok (.invokevirtual 239, 3) := by decide +kernel
theorem d_Cd_count_70 : decode prog_1_method_20_code 70 = .ok (.goto 4, 3) := by decide +kernel
theorem d_Cd_count_73 : decode prog_1_method_20_code 73 = .ok (.iconst (-1), 1) := by decide +kernel
theorem d_Cd_count_74 : decode prog_1_method_20_code 74 = .ok (.ireturn, 1) := by decide +kernel
theorem d_Cd_livingDomains_0 : decode prog_1_method_21_code 0 = .ok (.iconst 0, 1) := by decide +kernel
theorem d_Cd_livingDomains_1 : decode prog_1_method_21_code 1 = .ok (.istore_n 1, 1) := by decide +kernel
theorem d_Cd_livingDomains_2 : decode prog_1_method_21_code 2 = .ok (.iconst 0, 1) := by decide +kernel
theorem d_Cd_livingDomains_3 : decode prog_1_method_21_code 3 = .ok (.istore_n 2, 1) := by decide +kernel
theorem d_Cd_livingDomains_4 : decode prog_1_method_21_code 4 = .ok (.iload_n 2, 1) := by decide +kernel
theorem d_Cd_livingDomains_5 : decode prog_1_method_21_code 5 = .ok (.aload_n 0, 1) := by decide +kernel
theorem d_Cd_livingDomains_6 : decode prog_1_method_21_code 6 = .ok (.getfield 28, 3) := by decide +kernel
theorem d_Cd_livingDomains_9 : decode prog_1_method_21_code 9 = .ok (.if_icmp .ge 24, 3) := by decide +kernel
theorem d_Cd_livingDomains_12 : decode prog_1_method_21_code 12 = .ok (.aload_n 0, 1) := by decide +kernel
theorem d_Cd_livingDomains_13 : decode prog_1_method_21_code 13 = .ok (.getfield 11, 3) := by decide +kernel
theorem d_Cd_livingDomains_16 : decode prog_1_method_21_code 16 = .ok (.iload_n 2, 1) := by decide +kernel
theorem d_Cd_livingDomains_17 : decode prog_1_method_21_code 17 = .ok (.aaload, 1) := by decide +kernel
theorem d_Cd_livingDomains_18 : decode prog_1_method_21_code 18 = .ok (.getfield 224, 3) := by decide +kernel
theorem d_Cd_livingDomains_21 : decode prog_1_method_21_code 21 = .ok (.ifCond .ne 6, 3) := by decide +kernel
theorem d_Cd_livingDomains_24 : decode prog_1_method_21_code 24 = .ok (.iinc 1 1, 3) := by decide +kernel
theorem d_Cd_livingDomains_27 : decode prog_1_method_21_code 27 = .ok (.iinc 2 1, 3) := by decide +kernel
theorem d_Cd_livingDomains_30 : decode prog_1_method_21_code 30 = .ok (.goto (-26), 3) := by decide +kernel
theorem d_Cd_livingDomains_33 : decode prog_1_method_21_code 33 = .ok (.iload_n 1, 1) := by decide +kernel
theorem d_Cd_livingDomains_34 : decode prog_1_method_21_code 34 = .ok (.ireturn, 1) := by decide +kernel
theorem d_Cd_livingCapabilities_0 : decode prog_1_method_22_code 0 = .ok (.iconst 0, 1) := by decide +kernel
theorem d_Cd_livingCapabilities_1 : decode prog_1_method_22_code 1 = .ok (.istore_n 1, 1) := by decide +kernel
theorem d_Cd_livingCapabilities_2 : decode prog_1_method_22_code 2 = .ok (.iconst 0, 1) := by decide +kernel
theorem d_Cd_livingCapabilities_3 : decode prog_1_method_22_code 3 = .ok (.istore_n 2, 1) := by decide +kernel
theorem d_Cd_livingCapabilities_4 : decode prog_1_method_22_code 4 = .ok (.iload_n 2, 1) := by decide +kernel
theorem d_Cd_livingCapabilities_5 : decode prog_1_method_22_code 5 = .ok (.aload_n 0, 1) := by decide +kernel
theorem d_Cd_livingCapabilities_6 : decode prog_1_method_22_code 6 = .ok (.getfield 233, 3) := by decide +kernel
theorem d_Cd_livingCapabilities_9 : decode prog_1_method_22_code 9 = .ok (.if_icmp .ge 24, 3) := by decide +kernel
theorem d_Cd_livingCapabilities_12 : decode prog_1_method_22_code 12 = .ok (.aload_n 0, 1) := by decide +kernel
theorem d_Cd_livingCapabilities_13 : decode prog_1_method_22_code 13 = .ok (.getfield 17, 3) := by decide +kernel
theorem d_Cd_livingCapabilities_16 : decode prog_1_method_22_code 16 = .ok (.iload_n 2, 1) := by decide +kernel
theorem d_Cd_livingCapabilities_17 : decode prog_1_method_22_code 17 = .ok (.aaload, 1) := by decide +kernel
theorem d_Cd_livingCapabilities_18 : decode prog_1_method_22_code 18 = .ok (.getfield 116, 3) := by decide +kernel
theorem d_Cd_livingCapabilities_21 : decode prog_1_method_22_code 21 = .ok (.ifCond .ne 6, 3) := by decide +kernel
theorem d_Cd_livingCapabilities_24 : decode prog_1_method_22_code 24 = .ok (.iinc 1 1, 3) := by decide +kernel
theorem d_Cd_livingCapabilities_27 : decode prog_1_method_22_code 27 = .ok (.iinc 2 1, 3) := by decide +kernel
theorem d_Cd_livingCapabilities_30 : decode prog_1_method_22_code 30 = .ok (.goto (-26), 3) := by decide +kernel
theorem d_Cd_livingCapabilities_33 : decode prog_1_method_22_code 33 = .ok (.iload_n 1, 1) := by decide +kernel
theorem d_Cd_livingCapabilities_34 : decode prog_1_method_22_code 34 = .ok (.ireturn, 1) := by decide +kernel
theorem d_Cd_objectsOf_0 : decode prog_1_method_23_code 0 = .ok (.aload_n 0, 1) := by decide +kernel
theorem d_Cd_objectsOf_1 : decode prog_1_method_23_code 1 = .ok (.iload_n 1, 1) := by decide +kernel
theorem d_Cd_objectsOf_2 : decode prog_1_method_23_code 2 = .ok (.invokevirtual 221, 3) := by decide +kernel
theorem d_Cd_objectsOf_5 : decode prog_1_method_23_code 5 = .ok (.ifCond .eq 15, 3) := by decide +kernel
theorem d_Cd_objectsOf_8 : decode prog_1_method_23_code 8 = .ok (.aload_n 0, 1) := by decide +kernel
theorem d_Cd_objectsOf_9 : decode prog_1_method_23_code 9 = .ok (.getfield 11, 3) := by decide +kernel
theorem d_Cd_objectsOf_12 : decode prog_1_method_23_code 12 = .ok (.iload_n 1, 1) := by decide +kernel
theorem d_Cd_objectsOf_13 : decode prog_1_method_23_code 13 = .ok (.aaload, 1) := by decide +kernel
theorem d_Cd_objectsOf_14 : decode prog_1_method_23_code 14 = .ok (.invokevirtual 44, 3) := by decide +kernel
theorem d_Cd_objectsOf_17 : decode prog_1_method_23_code 17 = .ok (.goto 4, 3) := by decide +kernel
theorem d_Cd_objectsOf_20 : decode prog_1_method_23_code 20 = .ok (.iconst 0, 1) := by decide +kernel
theorem d_Cd_objectsOf_21 : decode prog_1_method_23_code 21 = .ok (.ireturn, 1) := by decide +kernel
theorem d_Cd_isDomain_0 : decode prog_1_method_24_code 0 = .ok (.iload_n 1, 1) := by decide +kernel
theorem d_Cd_isDomain_1 : decode prog_1_method_24_code 1 = .ok (.ifCond .lt 15, 3) := by decide +kernel
theorem d_Cd_isDomain_4 : decode prog_1_method_24_code 4 = .ok (.iload_n 1, 1) := by decide +kernel
theorem d_Cd_isDomain_5 : decode prog_1_method_24_code 5 = .ok (.aload_n 0, 1) := by decide +kernel
theorem d_Cd_isDomain_6 : decode prog_1_method_24_code 6 = .ok (.getfield 28, 3) := by decide +kernel
theorem d_Cd_isDomain_9 : decode prog_1_method_24_code 9 = .ok (.if_icmp .ge 7, 3) := by decide +kernel
theorem d_Cd_isDomain_12 : decode prog_1_method_24_code 12 = .ok (.iconst 1, 1) := by decide +kernel
theorem d_Cd_isDomain_13 : decode prog_1_method_24_code 13 = .ok (.goto 4, 3) := by decide +kernel
theorem d_Cd_isDomain_16 : decode prog_1_method_24_code 16 = .ok (.iconst 0, 1) := by decide +kernel
theorem d_Cd_isDomain_17 : decode prog_1_method_24_code 17 = .ok (.ireturn, 1) := by decide +kernel
theorem d_Cd_isSlot_0 : decode prog_1_method_25_code 0 = .ok (.iload_n 0, 1) := by decide +kernel
theorem d_Cd_isSlot_1 : decode prog_1_method_25_code 1 = .ok (.ifCond .lt 13, 3) := by decide +kernel
theorem d_Cd_isSlot_4 : decode prog_1_method_25_code 4 = .ok (.iload_n 0, 1) := by decide +kernel
theorem d_Cd_isSlot_5 : decode prog_1_method_25_code 5 = .ok (.bipush 8, 2) := by decide +kernel
theorem d_Cd_isSlot_7 : decode prog_1_method_25_code 7 = .ok (.if_icmp .ge 7, 3) := by decide +kernel
theorem d_Cd_isSlot_10 : decode prog_1_method_25_code 10 = .ok (.iconst 1, 1) := by decide +kernel
theorem d_Cd_isSlot_11 : decode prog_1_method_25_code 11 = .ok (.goto 4, 3) := by decide +kernel
theorem d_Cd_isSlot_14 : decode prog_1_method_25_code 14 = .ok (.iconst 0, 1) := by decide +kernel
theorem d_Cd_isSlot_15 : decode prog_1_method_25_code 15 = .ok (.ireturn, 1) := by decide +kernel
theorem d_Cd_isField_0 : decode prog_1_method_26_code 0 = .ok (.aload_n 0, 1) := by decide +kernel
theorem d_Cd_isField_1 : decode prog_1_method_26_code 1 = .ok (.iload_n 1, 1) := by decide +kernel
theorem d_Cd_isField_2 : decode prog_1_method_26_code 2 = .ok (.invokevirtual 221, 3) := by decide +kernel
theorem d_Cd_isField_5 : decode prog_1_method_26_code 5 = .ok (.ifCond .eq 29, 3) := by decide +kernel
theorem d_Cd_isField_8 : decode prog_1_method_26_code 8 = .ok (.aload_n 0, 1) := by decide +kernel
theorem d_Cd_isField_9 : decode prog_1_method_26_code 9 = .ok (.getfield 11, 3) := by decide +kernel
theorem d_Cd_isField_12 : decode prog_1_method_26_code 12 = .ok (.iload_n 1, 1) := by decide +kernel
theorem d_Cd_isField_13 : decode prog_1_method_26_code 13 = .ok (.aaload, 1) := by decide +kernel
theorem d_Cd_isField_14 : decode prog_1_method_26_code 14 = .ok (.iload_n 2, 1) := by decide +kernel
theorem d_Cd_isField_15 : decode prog_1_method_26_code 15 = .ok (.invokevirtual 69, 3) := by decide +kernel
theorem d_Cd_isField_18 : decode prog_1_method_26_code 18 = .ok (.ifCond .eq 16, 3) := by decide +kernel
theorem d_Cd_isField_21 : decode prog_1_method_26_code 21 = .ok (.iload_n 3, 1) := by decide +kernel
theorem d_Cd_isField_22 : decode prog_1_method_26_code 22 = .ok (.ifCond .lt 12, 3) := by decide +kernel
theorem d_Cd_isField_25 : decode prog_1_method_26_code 25 = .ok (.iload_n 3, 1) := by decide +kernel
theorem d_Cd_isField_26 : decode prog_1_method_26_code 26 = .ok (.iconst 3, 1) := by decide +kernel
theorem d_Cd_isField_27 : decode prog_1_method_26_code 27 = .ok (.if_icmp .ge 7, 3) := by decide +kernel
theorem d_Cd_isField_30 : decode prog_1_method_26_code 30 = .ok (.iconst 1, 1) := by decide +kernel
theorem d_Cd_isField_31 : decode prog_1_method_26_code 31 = .ok (.goto 4, 3) := by decide +kernel
theorem d_Cd_isField_34 : decode prog_1_method_26_code 34 = .ok (.iconst 0, 1) := by decide +kernel
theorem d_Cd_isField_35 : decode prog_1_method_26_code 35 = .ok (.ireturn, 1) := by decide +kernel
theorem d_Cd_requireSlot_0 : decode prog_1_method_27_code 0 = .ok (.aload_n 0, 1) := by decide +kernel
theorem d_Cd_requireSlot_1 : decode prog_1_method_27_code 1 = .ok (.iload_n 1, 1) := by decide +kernel
theorem d_Cd_requireSlot_2 : decode prog_1_method_27_code 2 = .ok (.invokevirtual 221, 3) := by decide +kernel
theorem d_Cd_requireSlot_5 : decode prog_1_method_27_code 5 = .ok (.ifCond .eq 10, 3) := by decide +kernel
theorem d_Cd_requireSlot_8 : decode prog_1_method_27_code 8 = .ok (.iload_n 2, 1) := by decide +kernel
theorem d_Cd_requireSlot_9 : decode prog_1_method_27_code 9 = .ok (.invokestatic 81, 3) := by decide +kernel
theorem d_Cd_requireSlot_12 : decode prog_1_method_27_code 12 = .ok (.ifCond .ne 13, 3) := by decide +kernel
theorem d_Cd_requireSlot_15 : decode prog_1_method_27_code 15 = .ok (.new 242, 3) := by decide +kernel
theorem d_Cd_requireSlot_18 : decode prog_1_method_27_code 18 = .ok (.dup, 1) := by decide +kernel
theorem d_Cd_requireSlot_19 : decode prog_1_method_27_code 19 = .ok (.ldc 244, 2) := by decide +kernel
theorem d_Cd_requireSlot_21 : decode prog_1_method_27_code 21 = .ok (.invokespecial 246, 3) := by decide +kernel
theorem d_Cd_requireSlot_24 : decode prog_1_method_27_code 24 = .ok (.athrow, 1) := by decide +kernel
theorem d_Cd_requireSlot_25 : decode prog_1_method_27_code 25 = .ok (.return_, 1) := by decide +kernel
theorem d_Cd_requireGrant_0 : decode prog_1_method_28_code 0 = .ok (.iload_n 0, 1) := by decide +kernel
theorem d_Cd_requireGrant_1 : decode prog_1_method_28_code 1 = .ok (.ifCond .lt 14, 3) := by decide +kernel
theorem d_Cd_requireGrant_4 : decode prog_1_method_28_code 4 = .ok (.iload_n 0, 1) := by decide +kernel
theorem d_Cd_requireGrant_5 : decode prog_1_method_28_code 5 = .ok (.bipush 31, 2) := by decide +kernel
theorem d_Cd_requireGrant_7 : decode prog_1_method_28_code 7 = .ok (.if_icmp .gt 8, 3) := by decide +kernel
theorem d_Cd_requireGrant_10 : decode prog_1_method_28_code 10 = .ok (.iload_n 1, 1) := by decide +kernel
theorem d_Cd_requireGrant_11 : decode prog_1_method_28_code 11 = .ok (.iconst (-1), 1) := by decide +kernel
theorem d_Cd_requireGrant_12 : decode prog_1_method_28_code 12 = .ok (.if_icmp .ge 13, 3) := by decide +kernel
theorem d_Cd_requireGrant_15 : decode prog_1_method_28_code 15 = .ok (.new 242, 3) := by decide +kernel
theorem d_Cd_requireGrant_18 : decode prog_1_method_28_code 18 = .ok (.dup, 1) := by decide +kernel
theorem d_Cd_requireGrant_19 : decode prog_1_method_28_code 19 = .ok (.ldc 247, 2) := by decide +kernel
theorem d_Cd_requireGrant_21 : decode prog_1_method_28_code 21 = .ok (.invokespecial 246, 3) := by decide +kernel
theorem d_Cd_requireGrant_24 : decode prog_1_method_28_code 24 = .ok (.athrow, 1) := by decide +kernel
theorem d_Cd_requireGrant_25 : decode prog_1_method_28_code 25 = .ok (.return_, 1) := by decide +kernel
theorem d_Cd_requireCapabilityLeft_0 : decode prog_1_method_29_code 0 = .ok (.aload_n 0, 1) := by decide +kernel
theorem d_Cd_requireCapabilityLeft_1 : decode prog_1_method_29_code 1 = .ok (.getfield 233, 3) := by decide +kernel
theorem d_Cd_requireCapabilityLeft_4 : decode prog_1_method_29_code 4 = .ok (.bipush 40, 2) := by decide +kernel
theorem d_Cd_requireCapabilityLeft_6 : decode prog_1_method_29_code 6 = .ok (.if_icmp .lt 13, 3) := by decide +kernel
theorem d_Cd_requireCapabilityLeft_9 : decode prog_1_method_29_code 9 = .ok (.new 48, 3) := by decide +kernel
theorem d_Cd_requireCapabilityLeft_12 : decode prog_1_method_29_code 12 = .ok (.dup, 1) := by decide +kernel
theorem d_Cd_requireCapabilityLeft_13 : decode prog_1_method_29_code 13 = .ok (.ldc 249, 2) := by decide +kernel
theorem d_Cd_requireCapabilityLeft_15 : decode prog_1_method_29_code 15 = .ok (.invokespecial 52, 3) := by decide +kernel
theorem d_Cd_requireCapabilityLeft_18 : decode prog_1_method_29_code 18 = .ok (.athrow, 1) := by decide +kernel
theorem d_Cd_requireCapabilityLeft_19 : decode prog_1_method_29_code 19 = .ok (.return_, 1) := by decide +kernel
theorem d_Cd_livingDomain_0 : decode prog_1_method_30_code 0 = .ok (.aload_n 0, 1) := by decide +kernel
theorem d_Cd_livingDomain_1 : decode prog_1_method_30_code 1 = .ok (.iload_n 1, 1) := by decide +kernel
theorem d_Cd_livingDomain_2 : decode prog_1_method_30_code 2 = .ok (.invokevirtual 221, 3) := by decide +kernel
theorem d_Cd_livingDomain_5 : decode prog_1_method_30_code 5 = .ok (.ifCond .ne 13, 3) := by decide +kernel
theorem d_Cd_livingDomain_8 : decode prog_1_method_30_code 8 = .ok (.new 242, 3) := by decide +kernel
theorem d_Cd_livingDomain_11 : decode prog_1_method_30_code 11 = .ok (.dup, 1) := by decide +kernel
theorem d_Cd_livingDomain_12 : decode prog_1_method_30_code 12 = .ok (.ldc 251, 2) := by decide +kernel
theorem d_Cd_livingDomain_14 : decode prog_1_method_30_code 14 = .ok (.invokespecial 246, 3) := by decide +kernel
theorem d_Cd_livingDomain_17 : decode prog_1_method_30_code 17 = .ok (.athrow, 1) := by decide +kernel
theorem d_Cd_livingDomain_18 : decode prog_1_method_30_code 18 = .ok (.aload_n 0, 1) := by decide +kernel
theorem d_Cd_livingDomain_19 : decode prog_1_method_30_code 19 = .ok (.getfield 11, 3) := by decide +kernel
theorem d_Cd_livingDomain_22 : decode prog_1_method_30_code 22 = .ok (.iload_n 1, 1) := by decide +kernel
theorem d_Cd_livingDomain_23 : decode prog_1_method_30_code 23 = .ok (.aaload, 1) := by decide +kernel
theorem d_Cd_livingDomain_24 : decode prog_1_method_30_code 24 = .ok (.getfield 224, 3) := by decide +kernel
theorem d_Cd_livingDomain_27 : decode prog_1_method_30_code 27 = .ok (.ifCond .eq 13, 3) := by decide +kernel
theorem d_Cd_livingDomain_30 : decode prog_1_method_30_code 30 = .ok (.new 32, 3) := by decide +kernel
theorem d_Cd_livingDomain_33 : decode prog_1_method_30_code 33 = .ok (.dup, 1) := by decide +kernel
theorem d_Cd_livingDomain_34 : decode prog_1_method_30_code 34 = .ok (.ldc 253, 2) := by decide +kernel
theorem d_Cd_livingDomain_36 : decode prog_1_method_30_code 36 = .ok (.invokespecial 36, 3) := by decide +kernel
theorem d_Cd_livingDomain_39 : decode prog_1_method_30_code 39 = .ok (.athrow, 1) := by decide +kernel
theorem d_Cd_livingDomain_40 : decode prog_1_method_30_code 40 = .ok (.aload_n 0, 1) := by decide +kernel
theorem d_Cd_livingDomain_41 : decode prog_1_method_30_code 41 = .ok (.getfield 11, 3) := by decide +kernel
theorem d_Cd_livingDomain_44 : decode prog_1_method_30_code 44 = .ok (.iload_n 1, 1) := by decide +kernel
theorem d_Cd_livingDomain_45 : decode prog_1_method_30_code 45 = .ok (.aaload, 1) := by decide +kernel
theorem d_Cd_livingDomain_46 : decode prog_1_method_30_code 46 = .ok (.areturn, 1) := by decide +kernel
theorem d_Cd_fieldOf_0 : decode prog_1_method_31_code 0 = .ok (.aload_n 0, 1) := by decide +kernel
theorem d_Cd_fieldOf_1 : decode prog_1_method_31_code 1 = .ok (.iload_n 1, 1) := by decide +kernel
theorem d_Cd_fieldOf_2 : decode prog_1_method_31_code 2 = .ok (.invokevirtual 69, 3) := by decide +kernel
theorem d_Cd_fieldOf_5 : decode prog_1_method_31_code 5 = .ok (.ifCond .ne 13, 3) := by decide +kernel
theorem d_Cd_fieldOf_8 : decode prog_1_method_31_code 8 = .ok (.new 73, 3) := by decide +kernel
theorem d_Cd_fieldOf_11 : decode prog_1_method_31_code 11 = .ok (.dup, 1) := by decide +kernel
theorem d_Cd_fieldOf_12 : decode prog_1_method_31_code 12 = .ok (.ldc 104, 2) := by decide +kernel
theorem d_Cd_fieldOf_14 : decode prog_1_method_31_code 14 = .ok (.invokespecial 77, 3) := by decide +kernel
theorem d_Cd_fieldOf_17 : decode prog_1_method_31_code 17 = .ok (.athrow, 1) := by decide +kernel
theorem d_Cd_fieldOf_18 : decode prog_1_method_31_code 18 = .ok (.iload_n 2, 1) := by decide +kernel
theorem d_Cd_fieldOf_19 : decode prog_1_method_31_code 19 = .ok (.ifCond .lt 8, 3) := by decide +kernel
theorem d_Cd_fieldOf_22 : decode prog_1_method_31_code 22 = .ok (.iload_n 2, 1) := by decide +kernel
theorem d_Cd_fieldOf_23 : decode prog_1_method_31_code 23 = .ok (.iconst 3, 1) := by decide +kernel
theorem d_Cd_fieldOf_24 : decode prog_1_method_31_code 24 = .ok (.if_icmp .lt 13, 3) := by decide +kernel
theorem d_Cd_fieldOf_27 : decode prog_1_method_31_code 27 = .ok (.new 84, 3) := by decide +kernel
theorem d_Cd_fieldOf_30 : decode prog_1_method_31_code 30 = .ok (.dup, 1) := by decide +kernel
theorem d_Cd_fieldOf_31 : decode prog_1_method_31_code 31 = .ok (.ldc 255, 2) := by decide +kernel
theorem d_Cd_fieldOf_33 : decode prog_1_method_31_code 33 = .ok (.invokespecial 88, 3) := by decide +kernel
theorem d_Cd_fieldOf_36 : decode prog_1_method_31_code 36 = .ok (.athrow, 1) := by decide +kernel
theorem d_Cd_fieldOf_37 : decode prog_1_method_31_code 37 = .ok (.aload_n 0, 1) := by decide +kernel
theorem d_Cd_fieldOf_38 : decode prog_1_method_31_code 38 = .ok (.getfield 205, 3) := by decide +kernel
theorem d_Cd_fieldOf_41 : decode prog_1_method_31_code 41 = .ok (.iload_n 1, 1) := by decide +kernel
theorem d_Cd_fieldOf_42 : decode prog_1_method_31_code 42 = .ok (.aaload, 1) := by decide +kernel
theorem d_Cd_fieldOf_43 : decode prog_1_method_31_code 43 = .ok (.getfield 209, 3) := by decide +kernel
theorem d_Cd_fieldOf_46 : decode prog_1_method_31_code 46 = .ok (.iload_n 2, 1) := by decide +kernel
theorem d_Cd_fieldOf_47 : decode prog_1_method_31_code 47 = .ok (.aaload, 1) := by decide +kernel
theorem d_Cd_fieldOf_48 : decode prog_1_method_31_code 48 = .ok (.areturn, 1) := by decide +kernel
theorem d_Cd_capabilityIn_0 : decode prog_1_method_32_code 0 = .ok (.aload_n 0, 1) := by decide +kernel
theorem d_Cd_capabilityIn_1 : decode prog_1_method_32_code 1 = .ok (.getfield 227, 3) := by decide +kernel
theorem d_Cd_capabilityIn_4 : decode prog_1_method_32_code 4 = .ok (.iload_n 1, 1) := by decide +kernel
theorem d_Cd_capabilityIn_5 : decode prog_1_method_32_code 5 = .ok (.aaload, 1) := by decide +kernel
theorem d_Cd_capabilityIn_6 : decode prog_1_method_32_code 6 = .ok (.astore_n 2, 1) := by decide +kernel
theorem d_Cd_capabilityIn_7 : decode prog_1_method_32_code 7 = .ok (.aload_n 2, 1) := by decide +kernel
theorem d_Cd_capabilityIn_8 : decode prog_1_method_32_code 8 = .ok (.ifnonnull 14, 3) := by decide +kernel
theorem d_Cd_capabilityIn_11 : decode prog_1_method_32_code 11 = .ok (.new 73, 3) := by decide +kernel
theorem d_Cd_capabilityIn_14 : decode prog_1_method_32_code 14 = .ok (.dup, 1) := by decide +kernel
theorem d_Cd_capabilityIn_15 : decode prog_1_method_32_code 15 = .ok (.ldc_w 257, 3) := by decide +kernel
theorem d_Cd_capabilityIn_18 : decode prog_1_method_32_code 18 = .ok (.invokespecial 77, 3) := by decide +kernel
theorem d_Cd_capabilityIn_21 : decode prog_1_method_32_code 21 = .ok (.athrow, 1) := by decide +kernel
theorem d_Cd_capabilityIn_22 : decode prog_1_method_32_code 22 = .ok (.aload_n 2, 1) := by decide +kernel
theorem d_Cd_capabilityIn_23 : decode prog_1_method_32_code 23 = .ok (.areturn, 1) := by decide +kernel
theorem d_Cd_usable_0 : decode prog_1_method_33_code 0 = .ok (.aload_n 0, 1) := by decide +kernel
theorem d_Cd_usable_1 : decode prog_1_method_33_code 1 = .ok (.iload_n 1, 1) := by decide +kernel
theorem d_Cd_usable_2 : decode prog_1_method_33_code 2 = .ok (.iload_n 2, 1) := by decide +kernel
theorem d_Cd_usable_3 : decode prog_1_method_33_code 3 = .ok (.invokevirtual 97, 3) := by decide +kernel
theorem d_Cd_usable_6 : decode prog_1_method_33_code 6 = .ok (.aload_n 0, 1) := by decide +kernel
theorem d_Cd_usable_7 : decode prog_1_method_33_code 7 = .ok (.iload_n 1, 1) := by decide +kernel
theorem d_Cd_usable_8 : decode prog_1_method_33_code 8 = .ok (.invokevirtual 40, 3) := by decide +kernel
theorem d_Cd_usable_11 : decode prog_1_method_33_code 11 = .ok (.iload_n 2, 1) := by decide +kernel
theorem d_Cd_usable_12 : decode prog_1_method_33_code 12 = .ok (.invokestatic 89, 3) := by decide +kernel
theorem d_Cd_usable_15 : decode prog_1_method_33_code 15 = .ok (.astore 4, 2) := by decide +kernel
theorem d_Cd_usable_17 : decode prog_1_method_33_code 17 = .ok (.aload 4, 2) := by decide +kernel
theorem d_Cd_usable_19 : decode prog_1_method_33_code 19 = .ok (.getfield 116, 3) := by decide +kernel
theorem d_Cd_usable_22 : decode prog_1_method_33_code 22 = .ok (.ifCond .ne 11, 3) := by decide +kernel
theorem d_Cd_usable_25 : decode prog_1_method_33_code 25 = .ok (.aload 4, 2) := by decide +kernel
theorem d_Cd_usable_27 : decode prog_1_method_33_code 27 = .ok (.invokevirtual 259, 3) := by decide +kernel
theorem d_Cd_usable_30 : decode prog_1_method_33_code 30 = .ok (.ifCond .eq 14, 3) := by decide +kernel
theorem d_Cd_usable_33 : decode prog_1_method_33_code 33 = .ok (.new 32, 3) := by decide +kernel
theorem d_Cd_usable_36 : decode prog_1_method_33_code 36 = .ok (.dup, 1) := by decide +kernel
theorem d_Cd_usable_37 : decode prog_1_method_33_code 37 = .ok (.ldc_w 262, 3) := by decide +kernel
theorem d_Cd_usable_40 : decode prog_1_method_33_code 40 = .ok (.invokespecial 36, 3) := by decide +kernel
theorem d_Cd_usable_43 : decode prog_1_method_33_code 43 = .ok (.athrow, 1) := by decide +kernel
theorem d_Cd_usable_44 : decode prog_1_method_33_code 44 = .ok (.aload 4, 2) := by decide +kernel
theorem d_Cd_usable_46 : decode prog_1_method_33_code 46 = .ok (.iload_n 3, 1) := by decide +kernel
theorem d_Cd_usable_47 : decode prog_1_method_33_code 47 = .ok (.invokevirtual 122, 3) := by decide +kernel
theorem d_Cd_usable_50 : decode prog_1_method_33_code 50 = .ok (.ifCond .ne 14, 3) := by decide +kernel
theorem d_Cd_usable_53 : decode prog_1_method_33_code 53 = .ok (.new 125, 3) := by decide +kernel
theorem d_Cd_usable_56 : decode prog_1_method_33_code 56 = .ok (.dup, 1) := by decide +kernel
theorem d_Cd_usable_57 : decode prog_1_method_33_code 57 = .ok (.ldc_w 264, 3) := by decide +kernel
theorem d_Cd_usable_60 : decode prog_1_method_33_code 60 = .ok (.invokespecial 129, 3) := by decide +kernel
theorem d_Cd_usable_63 : decode prog_1_method_33_code 63 = .ok (.athrow, 1) := by decide +kernel
theorem d_Cd_usable_64 : decode prog_1_method_33_code 64 = .ok (.aload 4, 2) := by decide +kernel
theorem d_Cd_usable_66 : decode prog_1_method_33_code 66 = .ok (.areturn, 1) := by decide +kernel
theorem d_Cd_targetField_0 : decode prog_1_method_34_code 0 = .ok (.aload_n 0, 1) := by decide +kernel
theorem d_Cd_targetField_1 : decode prog_1_method_34_code 1 = .ok (.getfield 130, 3) := by decide +kernel
theorem d_Cd_targetField_4 : decode prog_1_method_34_code 4 = .ok (.aload_n 0, 1) := by decide +kernel
theorem d_Cd_targetField_5 : decode prog_1_method_34_code 5 = .ok (.getfield 134, 3) := by decide +kernel
theorem d_Cd_targetField_8 : decode prog_1_method_34_code 8 = .ok (.iload_n 1, 1) := by decide +kernel
theorem d_Cd_targetField_9 : decode prog_1_method_34_code 9 = .ok (.invokestatic 56, 3) := by decide +kernel
theorem d_Cd_targetField_12 : decode prog_1_method_34_code 12 = .ok (.areturn, 1) := by decide +kernel
theorem d_Cd_putNew_0 : decode prog_1_method_35_code 0 = .ok (.aload_n 0, 1) := by decide +kernel
theorem d_Cd_putNew_1 : decode prog_1_method_35_code 1 = .ok (.getfield 17, 3) := by decide +kernel
theorem d_Cd_putNew_4 : decode prog_1_method_35_code 4 = .ok (.aload_n 0, 1) := by decide +kernel
theorem d_Cd_putNew_5 : decode prog_1_method_35_code 5 = .ok (.getfield 233, 3) := by decide +kernel
theorem d_Cd_putNew_8 : decode prog_1_method_35_code 8 = .ok (.aload_n 1, 1) := by decide +kernel
theorem d_Cd_putNew_9 : decode prog_1_method_35_code 9 = .ok (.aastore, 1) := by decide +kernel
theorem d_Cd_putNew_10 : decode prog_1_method_35_code 10 = .ok (.aload_n 0, 1) := by decide +kernel
theorem d_Cd_putNew_11 : decode prog_1_method_35_code 11 = .ok (.dup, 1) := by decide +kernel
theorem d_Cd_putNew_12 : decode prog_1_method_35_code 12 = .ok (.getfield 233, 3) := by decide +kernel
theorem d_Cd_putNew_15 : decode prog_1_method_35_code 15 = .ok (.iconst 1, 1) := by decide +kernel
theorem d_Cd_putNew_16 : decode prog_1_method_35_code 16 = .ok (.iadd, 1) := by decide +kernel
theorem d_Cd_putNew_17 : decode prog_1_method_35_code 17 = .ok (.putfield 233, 3) := by decide +kernel
theorem d_Cd_putNew_20 : decode prog_1_method_35_code 20 = .ok (.aload_n 2, 1) := by decide +kernel
theorem d_Cd_putNew_21 : decode prog_1_method_35_code 21 = .ok (.getfield 227, 3) := by decide +kernel
theorem d_Cd_putNew_24 : decode prog_1_method_35_code 24 = .ok (.iload_n 3, 1) := by decide +kernel
theorem d_Cd_putNew_25 : decode prog_1_method_35_code 25 = .ok (.aload_n 1, 1) := by decide +kernel
theorem d_Cd_putNew_26 : decode prog_1_method_35_code 26 = .ok (.aastore, 1) := by decide +kernel
theorem d_Cd_putNew_27 : decode prog_1_method_35_code 27 = .ok (.aload_n 0, 1) := by decide +kernel
theorem d_Cd_putNew_28 : decode prog_1_method_35_code 28 = .ok (.getfield 233, 3) := by decide +kernel
theorem d_Cd_putNew_31 : decode prog_1_method_35_code 31 = .ok (.ireturn, 1) := by decide +kernel
theorem d_Cd_spreadDeath_0 : decode prog_1_method_36_code 0 = .ok (.iconst 0, 1) := by decide +kernel
theorem d_Cd_spreadDeath_1 : decode prog_1_method_36_code 1 = .ok (.istore_n 1, 1) := by decide +kernel
theorem d_Cd_spreadDeath_2 : decode prog_1_method_36_code 2 = .ok (.iconst 0, 1) := by decide +kernel
theorem d_Cd_spreadDeath_3 : decode prog_1_method_36_code 3 = .ok (.istore_n 2, 1) := by decide +kernel
theorem d_Cd_spreadDeath_4 : decode prog_1_method_36_code 4 = .ok (.iload_n 2, 1) := by decide +kernel
theorem d_Cd_spreadDeath_5 : decode prog_1_method_36_code 5 = .ok (.aload_n 0, 1) := by decide +kernel
theorem d_Cd_spreadDeath_6 : decode prog_1_method_36_code 6 = .ok (.getfield 233, 3) := by decide +kernel
theorem d_Cd_spreadDeath_9 : decode prog_1_method_36_code 9 = .ok (.if_icmp .ge 38, 3) := by decide +kernel
theorem d_Cd_spreadDeath_12 : decode prog_1_method_36_code 12 = .ok (.aload_n 0, 1) := by decide +kernel
theorem d_Cd_spreadDeath_13 : decode prog_1_method_36_code 13 = .ok (.getfield 17, 3) := by decide +kernel
theorem d_Cd_spreadDeath_16 : decode prog_1_method_36_code 16 = .ok (.iload_n 2, 1) := by decide +kernel
theorem d_Cd_spreadDeath_17 : decode prog_1_method_36_code 17 = .ok (.aaload, 1) := by decide +kernel
theorem d_Cd_spreadDeath_18 : decode prog_1_method_36_code 18 = .ok (.astore_n 3, 1) := by decide +kernel
theorem d_Cd_spreadDeath_19 : decode prog_1_method_36_code 19 = .ok (.aload_n 3, 1) := by decide +kernel
theorem d_Cd_spreadDeath_20 : decode prog_1_method_36_code 20 = .ok (.getfield 116, 3) := by decide +kernel
theorem d_Cd_spreadDeath_23 : decode prog_1_method_36_code 23 = .ok (.ifCond .ne 18, 3) := by decide +kernel
theorem d_Cd_spreadDeath_26 : decode prog_1_method_36_code 26 = .ok (.aload_n 3, 1) := by decide +kernel
theorem d_Cd_spreadDeath_27 : decode prog_1_method_36_code 27 = .ok (.invokevirtual 266, 3) := by decide +kernel
theorem d_Cd_spreadDeath_30 : decode prog_1_method_36_code 30 = .ok (.ifCond .eq 11, 3) := by decide +kernel
theorem d_Cd_spreadDeath_33 : decode prog_1_method_36_code 33 = .ok (.aload_n 3, 1) := by decide +kernel
theorem d_Cd_spreadDeath_34 : decode prog_1_method_36_code 34 = .ok (.iconst 1, 1) := by decide +kernel
theorem d_Cd_spreadDeath_35 : decode prog_1_method_36_code 35 = .ok (.putfield 116, 3) := by decide +kernel
theorem d_Cd_spreadDeath_38 : decode prog_1_method_36_code 38 = .ok (.iinc 1 1, 3) := by decide +kernel
theorem d_Cd_spreadDeath_41 : decode prog_1_method_36_code 41 = .ok (.iinc 2 1, 3) := by decide +kernel
theorem d_Cd_spreadDeath_44 : decode prog_1_method_36_code 44 = .ok (.goto (-40), 3) := by decide +kernel
theorem d_Cd_spreadDeath_47 : decode prog_1_method_36_code 47 = .ok (.iload_n 1, 1) := by decide +kernel
theorem d_Cd_spreadDeath_48 : decode prog_1_method_36_code 48 = .ok (.ireturn, 1) := by decide +kernel
theorem d_Do_init_0 : decode prog_3_method_1_code 0 = .ok (.aload_n 0, 1) := by decide +kernel
theorem d_Do_init_1 : decode prog_3_method_1_code 1 = .ok (.invokespecial 3, 3) := by decide +kernel
theorem d_Do_init_4 : decode prog_3_method_1_code 4 = .ok (.aload_n 0, 1) := by decide +kernel
theorem d_Do_init_5 : decode prog_3_method_1_code 5 = .ok (.bipush 12, 2) := by decide +kernel
theorem d_Do_init_7 : decode prog_3_method_1_code 7 = .ok (.anewarray 9, 3) := by decide +kernel
theorem d_Do_init_10 : decode prog_3_method_1_code 10 = .ok (.putfield 11, 3) := by decide +kernel
theorem d_Do_init_13 : decode prog_3_method_1_code 13 = .ok (.iconst 0, 1) := by decide +kernel
theorem d_Do_init_14 : decode prog_3_method_1_code 14 = .ok (.istore_n 1, 1) := by decide +kernel
theorem d_Do_init_15 : decode prog_3_method_1_code 15 = .ok (.iload_n 1, 1) := by decide +kernel
theorem d_Do_init_16 : decode prog_3_method_1_code 16 = .ok (.bipush 12, 2) := by decide +kernel
theorem d_Do_init_18 : decode prog_3_method_1_code 18 = .ok (.if_icmp .ge 22, 3) := by decide +kernel
theorem d_Do_init_21 : decode prog_3_method_1_code 21 = .ok (.aload_n 0, 1) := by decide +kernel
theorem d_Do_init_22 : decode prog_3_method_1_code 22 = .ok (.getfield 11, 3) := by decide +kernel
theorem d_Do_init_25 : decode prog_3_method_1_code 25 = .ok (.iload_n 1, 1) := by decide +kernel
theorem d_Do_init_26 : decode prog_3_method_1_code 26 = .ok (.new 9, 3) := by decide +kernel
theorem d_Do_init_29 : decode prog_3_method_1_code 29 = .ok (.dup, 1) := by decide +kernel
theorem d_Do_init_30 : decode prog_3_method_1_code 30 = .ok (.invokespecial 17, 3) := by decide +kernel
theorem d_Do_init_33 : decode prog_3_method_1_code 33 = .ok (.aastore, 1) := by decide +kernel
theorem d_Do_init_34 : decode prog_3_method_1_code 34 = .ok (.iinc 1 1, 3) := by decide +kernel
theorem d_Do_init_37 : decode prog_3_method_1_code 37 = .ok (.goto (-22), 3) := by decide +kernel
theorem d_Do_init_40 : decode prog_3_method_1_code 40 = .ok (.aload_n 0, 1) := by decide +kernel
theorem d_Do_init_41 : decode prog_3_method_1_code 41 = .ok (.bipush 8, 2) := by decide +kernel
theorem d_Do_init_43 : decode prog_3_method_1_code 43 = .ok (.anewarray 18, 3) := by decide +kernel
theorem d_Do_init_46 : decode prog_3_method_1_code 46 = .ok (.putfield 20, 3) := by decide +kernel
theorem d_Do_init_49 : decode prog_3_method_1_code 49 = .ok (.return_, 1) := by decide +kernel
theorem d_Do_hasObject_0 : decode prog_3_method_2_code 0 = .ok (.iload_n 1, 1) := by decide +kernel
theorem d_Do_hasObject_1 : decode prog_3_method_2_code 1 = .ok (.ifCond .lt 25, 3) := by decide +kernel
theorem d_Do_hasObject_4 : decode prog_3_method_2_code 4 = .ok (.iload_n 1, 1) := by decide +kernel
theorem d_Do_hasObject_5 : decode prog_3_method_2_code 5 = .ok (.bipush 12, 2) := by decide +kernel
theorem d_Do_hasObject_7 : decode prog_3_method_2_code 7 = .ok (.if_icmp .ge 19, 3) := by decide +kernel
theorem d_Do_hasObject_10 : decode prog_3_method_2_code 10 = .ok (.aload_n 0, 1) := by decide +kernel
theorem d_Do_hasObject_11 : decode prog_3_method_2_code 11 = .ok (.getfield 11, 3) := by decide +kernel
theorem d_Do_hasObject_14 : decode prog_3_method_2_code 14 = .ok (.iload_n 1, 1) := by decide +kernel
theorem d_Do_hasObject_15 : decode prog_3_method_2_code 15 = .ok (.aaload, 1) := by decide +kernel
theorem d_Do_hasObject_16 : decode prog_3_method_2_code 16 = .ok (.getfield 24, 3) := by decide +kernel
theorem d_Do_hasObject_19 : decode prog_3_method_2_code 19 = .ok (.ifCond .eq 7, 3) := by decide +kernel
theorem d_Do_hasObject_22 : decode prog_3_method_2_code 22 = .ok (.iconst 1, 1) := by decide +kernel
theorem d_Do_hasObject_23 : decode prog_3_method_2_code 23 = .ok (.goto 4, 3) := by decide +kernel
theorem d_Do_hasObject_26 : decode prog_3_method_2_code 26 = .ok (.iconst 0, 1) := by decide +kernel
theorem d_Do_hasObject_27 : decode prog_3_method_2_code 27 = .ok (.ireturn, 1) := by decide +kernel
theorem d_Do_objectCount_0 : decode prog_3_method_3_code 0 = .ok (.iconst 0, 1) := by decide +kernel
theorem d_Do_objectCount_1 : decode prog_3_method_3_code 1 = .ok (.istore_n 1, 1) := by decide +kernel
theorem d_Do_objectCount_2 : decode prog_3_method_3_code 2 = .ok (.iconst 0, 1) := by decide +kernel
theorem d_Do_objectCount_3 : decode prog_3_method_3_code 3 = .ok (.istore_n 2, 1) := by decide +kernel
theorem d_Do_objectCount_4 : decode prog_3_method_3_code 4 = .ok (.iload_n 2, 1) := by decide +kernel
theorem d_Do_objectCount_5 : decode prog_3_method_3_code 5 = .ok (.bipush 12, 2) := by decide +kernel
theorem d_Do_objectCount_7 : decode prog_3_method_3_code 7 = .ok (.if_icmp .ge 24, 3) := by decide +kernel
theorem d_Do_objectCount_10 : decode prog_3_method_3_code 10 = .ok (.aload_n 0, 1) := by decide +kernel
theorem d_Do_objectCount_11 : decode prog_3_method_3_code 11 = .ok (.getfield 11, 3) := by decide +kernel
theorem d_Do_objectCount_14 : decode prog_3_method_3_code 14 = .ok (.iload_n 2, 1) := by decide +kernel
theorem d_Do_objectCount_15 : decode prog_3_method_3_code 15 = .ok (.aaload, 1) := by decide +kernel
theorem d_Do_objectCount_16 : decode prog_3_method_3_code 16 = .ok (.getfield 24, 3) := by decide +kernel
theorem d_Do_objectCount_19 : decode prog_3_method_3_code 19 = .ok (.ifCond .eq 6, 3) := by decide +kernel
theorem d_Do_objectCount_22 : decode prog_3_method_3_code 22 = .ok (.iinc 1 1, 3) := by decide +kernel
theorem d_Do_objectCount_25 : decode prog_3_method_3_code 25 = .ok (.iinc 2 1, 3) := by decide +kernel
theorem d_Do_objectCount_28 : decode prog_3_method_3_code 28 = .ok (.goto (-24), 3) := by decide +kernel
theorem d_Do_objectCount_31 : decode prog_3_method_3_code 31 = .ok (.iload_n 1, 1) := by decide +kernel
theorem d_Do_objectCount_32 : decode prog_3_method_3_code 32 = .ok (.ireturn, 1) := by decide +kernel
theorem d_Do_makeObject_0 : decode prog_3_method_4_code 0 = .ok (.iconst 0, 1) := by decide +kernel
theorem d_Do_makeObject_1 : decode prog_3_method_4_code 1 = .ok (.istore_n 1, 1) := by decide +kernel
theorem d_Do_makeObject_2 : decode prog_3_method_4_code 2 = .ok (.iload_n 1, 1) := by decide +kernel
theorem d_Do_makeObject_3 : decode prog_3_method_4_code 3 = .ok (.bipush 12, 2) := by decide +kernel
theorem d_Do_makeObject_5 : decode prog_3_method_4_code 5 = .ok (.if_icmp .ge 32, 3) := by decide +kernel
theorem d_Do_makeObject_8 : decode prog_3_method_4_code 8 = .ok (.aload_n 0, 1) := by decide +kernel
theorem d_Do_makeObject_9 : decode prog_3_method_4_code 9 = .ok (.getfield 11, 3) := by decide +kernel
theorem d_Do_makeObject_12 : decode prog_3_method_4_code 12 = .ok (.iload_n 1, 1) := by decide +kernel
theorem d_Do_makeObject_13 : decode prog_3_method_4_code 13 = .ok (.aaload, 1) := by decide +kernel
theorem d_Do_makeObject_14 : decode prog_3_method_4_code 14 = .ok (.getfield 24, 3) := by decide +kernel
theorem d_Do_makeObject_17 : decode prog_3_method_4_code 17 = .ok (.ifCond .ne 14, 3) := by decide +kernel
theorem d_Do_makeObject_20 : decode prog_3_method_4_code 20 = .ok (.aload_n 0, 1) := by decide +kernel
theorem d_Do_makeObject_21 : decode prog_3_method_4_code 21 = .ok (.getfield 11, 3) := by decide +kernel
theorem d_Do_makeObject_24 : decode prog_3_method_4_code 24 = .ok (.iload_n 1, 1) := by decide +kernel
theorem d_Do_makeObject_25 : decode prog_3_method_4_code 25 = .ok (.aaload, 1) := by decide +kernel
theorem d_Do_makeObject_26 : decode prog_3_method_4_code 26 = .ok (.invokevirtual 28, 3) := by decide +kernel
theorem d_Do_makeObject_29 : decode prog_3_method_4_code 29 = .ok (.iload_n 1, 1) := by decide +kernel
theorem d_Do_makeObject_30 : decode prog_3_method_4_code 30 = .ok (.ireturn, 1) := by decide +kernel
theorem d_Do_makeObject_31 : decode prog_3_method_4_code 31 = .ok (.iinc 1 1, 3) := by decide +kernel
theorem d_Do_makeObject_34 : decode prog_3_method_4_code 34 = .ok (.goto (-32), 3) := by decide +kernel
theorem d_Do_makeObject_37 : decode prog_3_method_4_code 37 = .ok (.iconst (-1), 1) := by decide +kernel
theorem d_Do_makeObject_38 : decode prog_3_method_4_code 38 = .ok (.ireturn, 1) := by decide +kernel
theorem d_Do_removeObject_0 : decode prog_3_method_5_code 0 = .ok (.aload_n 0, 1) := by decide +kernel
theorem d_Do_removeObject_1 : decode prog_3_method_5_code 1 = .ok (.getfield 11, 3) := by decide +kernel
theorem d_Do_removeObject_4 : decode prog_3_method_5_code 4 = .ok (.iload_n 1, 1) := by decide +kernel
theorem d_Do_removeObject_5 : decode prog_3_method_5_code 5 = .ok (.aaload, 1) := by decide +kernel
theorem d_Do_removeObject_6 : decode prog_3_method_5_code 6 = .ok (.iconst 0, 1) := by decide +kernel
theorem d_Do_removeObject_7 : decode prog_3_method_5_code 7 = .ok (.putfield 24, 3) := by decide +kernel
theorem d_Do_removeObject_10 : decode prog_3_method_5_code 10 = .ok (.iconst 0, 1) := by decide +kernel
theorem d_Do_removeObject_11 : decode prog_3_method_5_code 11 = .ok (.istore_n 2, 1) := by decide +kernel
theorem d_Do_removeObject_12 : decode prog_3_method_5_code 12 = .ok (.iconst 0, 1) := by decide +kernel
theorem d_Do_removeObject_13 : decode prog_3_method_5_code 13 = .ok (.istore_n 3, 1) := by decide +kernel
theorem d_Do_removeObject_14 : decode prog_3_method_5_code 14 = .ok (.iload_n 3, 1) := by decide +kernel
theorem d_Do_removeObject_15 : decode prog_3_method_5_code 15 = .ok (.bipush 12, 2) := by decide +kernel
theorem d_Do_removeObject_17 : decode prog_3_method_5_code 17 = .ok (.if_icmp .ge 34, 3) := by decide +kernel
theorem d_Do_removeObject_20 : decode prog_3_method_5_code 20 = .ok (.aload_n 0, 1) := by decide +kernel
theorem d_Do_removeObject_21 : decode prog_3_method_5_code 21 = .ok (.getfield 11, 3) := by decide +kernel
theorem d_Do_removeObject_24 : decode prog_3_method_5_code 24 = .ok (.iload_n 3, 1) := by decide +kernel
theorem d_Do_removeObject_25 : decode prog_3_method_5_code 25 = .ok (.aaload, 1) := by decide +kernel
theorem d_Do_removeObject_26 : decode prog_3_method_5_code 26 = .ok (.getfield 24, 3) := by decide +kernel
theorem d_Do_removeObject_29 : decode prog_3_method_5_code 29 = .ok (.ifCond .eq 16, 3) := by decide +kernel
theorem d_Do_removeObject_32 : decode prog_3_method_5_code 32 = .ok (.iload_n 2, 1) := by decide +kernel
theorem d_Do_removeObject_33 : decode prog_3_method_5_code 33 = .ok (.aload_n 0, 1) := by decide +kernel
theorem d_Do_removeObject_34 : decode prog_3_method_5_code 34 = .ok (.getfield 11, 3) := by decide +kernel
theorem d_Do_removeObject_37 : decode prog_3_method_5_code 37 = .ok (.iload_n 3, 1) := by decide +kernel
theorem d_Do_removeObject_38 : decode prog_3_method_5_code 38 = .ok (.aaload, 1) := by decide +kernel
theorem d_Do_removeObject_39 : decode prog_3_method_5_code 39 = .ok (.iload_n 1, 1) := by decide +kernel
theorem d_Do_removeObject_40 : decode prog_3_method_5_code 40 = .ok (.invokevirtual 31, 3) := by decide +kernel
theorem d_Do_removeObject_43 : decode prog_3_method_5_code 43 = .ok (.iadd, 1) := by decide +kernel
theorem d_Do_removeObject_44 : decode prog_3_method_5_code 44 = .ok (.istore_n 2, 1) := by decide +kernel
theorem d_Do_removeObject_45 : decode prog_3_method_5_code 45 = .ok (.iinc 3 1, 3) := by decide +kernel
theorem d_Do_removeObject_48 : decode prog_3_method_5_code 48 = .ok (.goto (-34), 3) := by decide +kernel
theorem d_Do_removeObject_51 : decode prog_3_method_5_code 51 = .ok (.iload_n 2, 1) := by decide +kernel
theorem d_Do_removeObject_52 : decode prog_3_method_5_code 52 = .ok (.ireturn, 1) := by decide +kernel
theorem d_Do_replaceSlot_0 : decode prog_3_method_6_code 0 = .ok (.aload_n 0, 1) := by decide +kernel
theorem d_Do_replaceSlot_1 : decode prog_3_method_6_code 1 = .ok (.getfield 20, 3) := by decide +kernel
theorem d_Do_replaceSlot_4 : decode prog_3_method_6_code 4 = .ok (.iload_n 1, 1) := by decide +kernel
theorem d_Do_replaceSlot_5 : decode prog_3_method_6_code 5 = .ok (.aaload, 1) := by decide +kernel
theorem d_Do_replaceSlot_6 : decode prog_3_method_6_code 6 = .ok (.ifnonnull 7, 3) := by decide +kernel
theorem d_Do_replaceSlot_9 : decode prog_3_method_6_code 9 = .ok (.iconst 0, 1) := by decide +kernel
theorem d_Do_replaceSlot_10 : decode prog_3_method_6_code 10 = .ok (.goto 4, 3) := by decide +kernel
theorem d_Do_replaceSlot_13 : decode prog_3_method_6_code 13 = .ok (.iconst 1, 1) := by decide +kernel
theorem d_Do_replaceSlot_14 : decode prog_3_method_6_code 14 = .ok (.istore_n 3, 1) := by decide +kernel
theorem d_Do_replaceSlot_15 : decode prog_3_method_6_code 15 = .ok (.aload_n 0, 1) := by decide +kernel
theorem d_Do_replaceSlot_16 : decode prog_3_method_6_code 16 = .ok (.getfield 20, 3) := by decide +kernel
theorem d_Do_replaceSlot_19 : decode prog_3_method_6_code 19 = .ok (.iload_n 1, 1) := by decide +kernel
theorem d_Do_replaceSlot_20 : decode prog_3_method_6_code 20 = .ok (.aload_n 2, 1) := by decide +kernel
theorem d_Do_replaceSlot_21 : decode prog_3_method_6_code 21 = .ok (.aastore, 1) := by decide +kernel
theorem d_Do_replaceSlot_22 : decode prog_3_method_6_code 22 = .ok (.iload_n 3, 1) := by decide +kernel
theorem d_Do_replaceSlot_23 : decode prog_3_method_6_code 23 = .ok (.ireturn, 1) := by decide +kernel
theorem d_Do_finish_0 : decode prog_3_method_7_code 0 = .ok (.aload_n 0, 1) := by decide +kernel
theorem d_Do_finish_1 : decode prog_3_method_7_code 1 = .ok (.iconst 1, 1) := by decide +kernel
theorem d_Do_finish_2 : decode prog_3_method_7_code 2 = .ok (.putfield 35, 3) := by decide +kernel
theorem d_Do_finish_5 : decode prog_3_method_7_code 5 = .ok (.iconst 0, 1) := by decide +kernel
theorem d_Do_finish_6 : decode prog_3_method_7_code 6 = .ok (.istore_n 1, 1) := by decide +kernel
theorem d_Do_finish_7 : decode prog_3_method_7_code 7 = .ok (.iload_n 1, 1) := by decide +kernel
theorem d_Do_finish_8 : decode prog_3_method_7_code 8 = .ok (.bipush 12, 2) := by decide +kernel
theorem d_Do_finish_10 : decode prog_3_method_7_code 10 = .ok (.if_icmp .ge 19, 3) := by decide +kernel
theorem d_Do_finish_13 : decode prog_3_method_7_code 13 = .ok (.aload_n 0, 1) := by decide +kernel
theorem d_Do_finish_14 : decode prog_3_method_7_code 14 = .ok (.getfield 11, 3) := by decide +kernel
theorem d_Do_finish_17 : decode prog_3_method_7_code 17 = .ok (.iload_n 1, 1) := by decide +kernel
theorem d_Do_finish_18 : decode prog_3_method_7_code 18 = .ok (.aaload, 1) := by decide +kernel
theorem d_Do_finish_19 : decode prog_3_method_7_code 19 = .ok (.iconst 0, 1) := by decide +kernel
theorem d_Do_finish_20 : decode prog_3_method_7_code 20 = .ok (.putfield 24, 3) := by decide +kernel
theorem d_Do_finish_23 : decode prog_3_method_7_code 23 = .ok (.iinc 1 1, 3) := by decide +kernel
theorem d_Do_finish_26 : decode prog_3_method_7_code 26 = .ok (.goto (-19), 3) := by decide +kernel
theorem d_Do_finish_29 : decode prog_3_method_7_code 29 = .ok (.iconst 0, 1) := by decide +kernel
theorem d_Do_finish_30 : decode prog_3_method_7_code 30 = .ok (.istore_n 1, 1) := by decide +kernel
theorem d_Do_finish_31 : decode prog_3_method_7_code 31 = .ok (.iload_n 1, 1) := by decide +kernel
theorem d_Do_finish_32 : decode prog_3_method_7_code 32 = .ok (.bipush 8, 2) := by decide +kernel
theorem d_Do_finish_34 : decode prog_3_method_7_code 34 = .ok (.if_icmp .ge 16, 3) := by decide +kernel
theorem d_Do_finish_37 : decode prog_3_method_7_code 37 = .ok (.aload_n 0, 1) := by decide +kernel
theorem d_Do_finish_38 : decode prog_3_method_7_code 38 = .ok (.getfield 20, 3) := by decide +kernel
theorem d_Do_finish_41 : decode prog_3_method_7_code 41 = .ok (.iload_n 1, 1) := by decide +kernel
theorem d_Do_finish_42 : decode prog_3_method_7_code 42 = .ok (.aconst_null, 1) := by decide +kernel
theorem d_Do_finish_43 : decode prog_3_method_7_code 43 = .ok (.aastore, 1) := by decide +kernel
theorem d_Do_finish_44 : decode prog_3_method_7_code 44 = .ok (.iinc 1 1, 3) := by decide +kernel
theorem d_Do_finish_47 : decode prog_3_method_7_code 47 = .ok (.goto (-16), 3) := by decide +kernel
theorem d_Do_finish_50 : decode prog_3_method_7_code 50 = .ok (.return_, 1) := by decide +kernel
theorem d_Ob_init_0 : decode prog_4_method_1_code 0 = .ok (.aload_n 0, 1) := by decide +kernel
theorem d_Ob_init_1 : decode prog_4_method_1_code 1 = .ok (.invokespecial 3, 3) := by decide +kernel
theorem d_Ob_init_4 : decode prog_4_method_1_code 4 = .ok (.aload_n 0, 1) := by decide +kernel
theorem d_Ob_init_5 : decode prog_4_method_1_code 5 = .ok (.iconst 3, 1) := by decide +kernel
theorem d_Ob_init_6 : decode prog_4_method_1_code 6 = .ok (.anewarray 9, 3) := by decide +kernel
theorem d_Ob_init_9 : decode prog_4_method_1_code 9 = .ok (.putfield 11, 3) := by decide +kernel
theorem d_Ob_init_12 : decode prog_4_method_1_code 12 = .ok (.iconst 0, 1) := by decide +kernel
theorem d_Ob_init_13 : decode prog_4_method_1_code 13 = .ok (.istore_n 1, 1) := by decide +kernel
theorem d_Ob_init_14 : decode prog_4_method_1_code 14 = .ok (.iload_n 1, 1) := by decide +kernel
theorem d_Ob_init_15 : decode prog_4_method_1_code 15 = .ok (.iconst 3, 1) := by decide +kernel
theorem d_Ob_init_16 : decode prog_4_method_1_code 16 = .ok (.if_icmp .ge 22, 3) := by decide +kernel
theorem d_Ob_init_19 : decode prog_4_method_1_code 19 = .ok (.aload_n 0, 1) := by decide +kernel
theorem d_Ob_init_20 : decode prog_4_method_1_code 20 = .ok (.getfield 11, 3) := by decide +kernel
theorem d_Ob_init_23 : decode prog_4_method_1_code 23 = .ok (.iload_n 1, 1) := by decide +kernel
theorem d_Ob_init_24 : decode prog_4_method_1_code 24 = .ok (.new 9, 3) := by decide +kernel
theorem d_Ob_init_27 : decode prog_4_method_1_code 27 = .ok (.dup, 1) := by decide +kernel
theorem d_Ob_init_28 : decode prog_4_method_1_code 28 = .ok (.invokespecial 17, 3) := by decide +kernel
theorem d_Ob_init_31 : decode prog_4_method_1_code 31 = .ok (.aastore, 1) := by decide +kernel
theorem d_Ob_init_32 : decode prog_4_method_1_code 32 = .ok (.iinc 1 1, 3) := by decide +kernel
theorem d_Ob_init_35 : decode prog_4_method_1_code 35 = .ok (.goto (-21), 3) := by decide +kernel
theorem d_Ob_init_38 : decode prog_4_method_1_code 38 = .ok (.return_, 1) := by decide +kernel
theorem d_Ob_begin_0 : decode prog_4_method_2_code 0 = .ok (.aload_n 0, 1) := by decide +kernel
theorem d_Ob_begin_1 : decode prog_4_method_2_code 1 = .ok (.iconst 1, 1) := by decide +kernel
theorem d_Ob_begin_2 : decode prog_4_method_2_code 2 = .ok (.putfield 18, 3) := by decide +kernel
theorem d_Ob_begin_5 : decode prog_4_method_2_code 5 = .ok (.iconst 0, 1) := by decide +kernel
theorem d_Ob_begin_6 : decode prog_4_method_2_code 6 = .ok (.istore_n 1, 1) := by decide +kernel
theorem d_Ob_begin_7 : decode prog_4_method_2_code 7 = .ok (.iload_n 1, 1) := by decide +kernel
theorem d_Ob_begin_8 : decode prog_4_method_2_code 8 = .ok (.iconst 3, 1) := by decide +kernel
theorem d_Ob_begin_9 : decode prog_4_method_2_code 9 = .ok (.if_icmp .ge 19, 3) := by decide +kernel
theorem d_Ob_begin_12 : decode prog_4_method_2_code 12 = .ok (.aload_n 0, 1) := by decide +kernel
theorem d_Ob_begin_13 : decode prog_4_method_2_code 13 = .ok (.getfield 11, 3) := by decide +kernel
theorem d_Ob_begin_16 : decode prog_4_method_2_code 16 = .ok (.iload_n 1, 1) := by decide +kernel
theorem d_Ob_begin_17 : decode prog_4_method_2_code 17 = .ok (.aaload, 1) := by decide +kernel
theorem d_Ob_begin_18 : decode prog_4_method_2_code 18 = .ok (.iconst 0, 1) := by decide +kernel
theorem d_Ob_begin_19 : decode prog_4_method_2_code 19 = .ok (.invokevirtual 22, 3) := by decide +kernel
theorem d_Ob_begin_22 : decode prog_4_method_2_code 22 = .ok (.iinc 1 1, 3) := by decide +kernel
theorem d_Ob_begin_25 : decode prog_4_method_2_code 25 = .ok (.goto (-18), 3) := by decide +kernel
theorem d_Ob_begin_28 : decode prog_4_method_2_code 28 = .ok (.return_, 1) := by decide +kernel
theorem d_Ob_unlink_0 : decode prog_4_method_3_code 0 = .ok (.iconst 0, 1) := by decide +kernel
theorem d_Ob_unlink_1 : decode prog_4_method_3_code 1 = .ok (.istore_n 2, 1) := by decide +kernel
theorem d_Ob_unlink_2 : decode prog_4_method_3_code 2 = .ok (.iconst 0, 1) := by decide +kernel
theorem d_Ob_unlink_3 : decode prog_4_method_3_code 3 = .ok (.istore_n 3, 1) := by decide +kernel
theorem d_Ob_unlink_4 : decode prog_4_method_3_code 4 = .ok (.iload_n 3, 1) := by decide +kernel
theorem d_Ob_unlink_5 : decode prog_4_method_3_code 5 = .ok (.iconst 3, 1) := by decide +kernel
theorem d_Ob_unlink_6 : decode prog_4_method_3_code 6 = .ok (.if_icmp .ge 35, 3) := by decide +kernel
theorem d_Ob_unlink_9 : decode prog_4_method_3_code 9 = .ok (.aload_n 0, 1) := by decide +kernel
theorem d_Ob_unlink_10 : decode prog_4_method_3_code 10 = .ok (.getfield 11, 3) := by decide +kernel
theorem d_Ob_unlink_13 : decode prog_4_method_3_code 13 = .ok (.iload_n 3, 1) := by decide +kernel
theorem d_Ob_unlink_14 : decode prog_4_method_3_code 14 = .ok (.aaload, 1) := by decide +kernel
theorem d_Ob_unlink_15 : decode prog_4_method_3_code 15 = .ok (.getfield 26, 3) := by decide +kernel
theorem d_Ob_unlink_18 : decode prog_4_method_3_code 18 = .ok (.iload_n 1, 1) := by decide +kernel
theorem d_Ob_unlink_19 : decode prog_4_method_3_code 19 = .ok (.if_icmp .ne 16, 3) := by decide +kernel
theorem d_Ob_unlink_22 : decode prog_4_method_3_code 22 = .ok (.aload_n 0, 1) := by decide +kernel
theorem d_Ob_unlink_23 : decode prog_4_method_3_code 23 = .ok (.getfield 11, 3) := by decide +kernel
theorem d_Ob_unlink_26 : decode prog_4_method_3_code 26 = .ok (.iload_n 3, 1) := by decide +kernel
theorem d_Ob_unlink_27 : decode prog_4_method_3_code 27 = .ok (.aaload, 1) := by decide +kernel
theorem d_Ob_unlink_28 : decode prog_4_method_3_code 28 = .ok (.iconst 0, 1) := by decide +kernel
theorem d_Ob_unlink_29 : decode prog_4_method_3_code 29 = .ok (.invokevirtual 22, 3) := by decide +kernel
theorem d_Ob_unlink_32 : decode prog_4_method_3_code 32 = .ok (.iinc 2 1, 3) := by decide +kernel
theorem d_Ob_unlink_35 : decode prog_4_method_3_code 35 = .ok (.iinc 3 1, 3) := by decide +kernel
theorem d_Ob_unlink_38 : decode prog_4_method_3_code 38 = .ok (.goto (-34), 3) := by decide +kernel
theorem d_Ob_unlink_41 : decode prog_4_method_3_code 41 = .ok (.iload_n 2, 1) := by decide +kernel
theorem d_Ob_unlink_42 : decode prog_4_method_3_code 42 = .ok (.ireturn, 1) := by decide +kernel
theorem d_Fi_init_0 : decode prog_5_method_1_code 0 = .ok (.aload_n 0, 1) := by decide +kernel
theorem d_Fi_init_1 : decode prog_5_method_1_code 1 = .ok (.invokespecial 3, 3) := by decide +kernel
theorem d_Fi_init_4 : decode prog_5_method_1_code 4 = .ok (.aload_n 0, 1) := by decide +kernel
theorem d_Fi_init_5 : decode prog_5_method_1_code 5 = .ok (.iconst (-1), 1) := by decide +kernel
theorem d_Fi_init_6 : decode prog_5_method_1_code 6 = .ok (.putfield 9, 3) := by decide +kernel
theorem d_Fi_init_9 : decode prog_5_method_1_code 9 = .ok (.return_, 1) := by decide +kernel
theorem d_Fi_isLink_0 : decode prog_5_method_2_code 0 = .ok (.aload_n 0, 1) := by decide +kernel
theorem d_Fi_isLink_1 : decode prog_5_method_2_code 1 = .ok (.getfield 9, 3) := by decide +kernel
theorem d_Fi_isLink_4 : decode prog_5_method_2_code 4 = .ok (.iconst (-1), 1) := by decide +kernel
theorem d_Fi_isLink_5 : decode prog_5_method_2_code 5 = .ok (.if_icmp .eq 7, 3) := by decide +kernel
theorem d_Fi_isLink_8 : decode prog_5_method_2_code 8 = .ok (.iconst 1, 1) := by decide +kernel
theorem d_Fi_isLink_9 : decode prog_5_method_2_code 9 = .ok (.goto 4, 3) := by decide +kernel
theorem d_Fi_isLink_12 : decode prog_5_method_2_code 12 = .ok (.iconst 0, 1) := by decide +kernel
theorem d_Fi_isLink_13 : decode prog_5_method_2_code 13 = .ok (.ireturn, 1) := by decide +kernel
theorem d_Fi_isNumber_0 : decode prog_5_method_3_code 0 = .ok (.aload_n 0, 1) := by decide +kernel
theorem d_Fi_isNumber_1 : decode prog_5_method_3_code 1 = .ok (.getfield 9, 3) := by decide +kernel
theorem d_Fi_isNumber_4 : decode prog_5_method_3_code 4 = .ok (.iconst (-1), 1) := by decide +kernel
theorem d_Fi_isNumber_5 : decode prog_5_method_3_code 5 = .ok (.if_icmp .ne 14, 3) := by decide +kernel
theorem d_Fi_isNumber_8 : decode prog_5_method_3_code 8 = .ok (.aload_n 0, 1) := by decide +kernel
theorem d_Fi_isNumber_9 : decode prog_5_method_3_code 9 = .ok (.getfield 15, 3) := by decide +kernel
theorem d_Fi_isNumber_12 : decode prog_5_method_3_code 12 = .ok (.ifnonnull 7, 3) := by decide +kernel
theorem d_Fi_isNumber_15 : decode prog_5_method_3_code 15 = .ok (.iconst 1, 1) := by decide +kernel
theorem d_Fi_isNumber_16 : decode prog_5_method_3_code 16 = .ok (.goto 4, 3) := by decide +kernel
theorem d_Fi_isNumber_19 : decode prog_5_method_3_code 19 = .ok (.iconst 0, 1) := by decide +kernel
theorem d_Fi_isNumber_20 : decode prog_5_method_3_code 20 = .ok (.ireturn, 1) := by decide +kernel
theorem d_Fi_becomeNumber_0 : decode prog_5_method_4_code 0 = .ok (.aload_n 0, 1) := by decide +kernel
theorem d_Fi_becomeNumber_1 : decode prog_5_method_4_code 1 = .ok (.iload_n 1, 1) := by decide +kernel
theorem d_Fi_becomeNumber_2 : decode prog_5_method_4_code 2 = .ok (.putfield 19, 3) := by decide +kernel
theorem d_Fi_becomeNumber_5 : decode prog_5_method_4_code 5 = .ok (.aload_n 0, 1) := by decide +kernel
theorem d_Fi_becomeNumber_6 : decode prog_5_method_4_code 6 = .ok (.iconst (-1), 1) := by decide +kernel
theorem d_Fi_becomeNumber_7 : decode prog_5_method_4_code 7 = .ok (.putfield 9, 3) := by decide +kernel
theorem d_Fi_becomeNumber_10 : decode prog_5_method_4_code 10 = .ok (.aload_n 0, 1) := by decide +kernel
theorem d_Fi_becomeNumber_11 : decode prog_5_method_4_code 11 = .ok (.aconst_null, 1) := by decide +kernel
theorem d_Fi_becomeNumber_12 : decode prog_5_method_4_code 12 = .ok (.putfield 15, 3) := by decide +kernel
theorem d_Fi_becomeNumber_15 : decode prog_5_method_4_code 15 = .ok (.return_, 1) := by decide +kernel
theorem d_Fi_becomeLink_0 : decode prog_5_method_5_code 0 = .ok (.aload_n 0, 1) := by decide +kernel
theorem d_Fi_becomeLink_1 : decode prog_5_method_5_code 1 = .ok (.iconst 0, 1) := by decide +kernel
theorem d_Fi_becomeLink_2 : decode prog_5_method_5_code 2 = .ok (.putfield 19, 3) := by decide +kernel
theorem d_Fi_becomeLink_5 : decode prog_5_method_5_code 5 = .ok (.aload_n 0, 1) := by decide +kernel
theorem d_Fi_becomeLink_6 : decode prog_5_method_5_code 6 = .ok (.iload_n 1, 1) := by decide +kernel
theorem d_Fi_becomeLink_7 : decode prog_5_method_5_code 7 = .ok (.putfield 9, 3) := by decide +kernel
theorem d_Fi_becomeLink_10 : decode prog_5_method_5_code 10 = .ok (.aload_n 0, 1) := by decide +kernel
theorem d_Fi_becomeLink_11 : decode prog_5_method_5_code 11 = .ok (.aconst_null, 1) := by decide +kernel
theorem d_Fi_becomeLink_12 : decode prog_5_method_5_code 12 = .ok (.putfield 15, 3) := by decide +kernel
theorem d_Fi_becomeLink_15 : decode prog_5_method_5_code 15 = .ok (.return_, 1) := by decide +kernel
theorem d_Fi_becomeCapability_0 : decode prog_5_method_6_code 0 = .ok (.aload_n 0, 1) := by decide +kernel
theorem d_Fi_becomeCapability_1 : decode prog_5_method_6_code 1 = .ok (.iconst 0, 1) := by decide +kernel
theorem d_Fi_becomeCapability_2 : decode prog_5_method_6_code 2 = .ok (.putfield 19, 3) := by decide +kernel
theorem d_Fi_becomeCapability_5 : decode prog_5_method_6_code 5 = .ok (.aload_n 0, 1) := by decide +kernel
theorem d_Fi_becomeCapability_6 : decode prog_5_method_6_code 6 = .ok (.iconst (-1), 1) := by decide +kernel
theorem d_Fi_becomeCapability_7 : decode prog_5_method_6_code 7 = .ok (.putfield 9, 3) := by decide +kernel
theorem d_Fi_becomeCapability_10 : decode prog_5_method_6_code 10 = .ok (.aload_n 0, 1) := by decide +kernel
theorem d_Fi_becomeCapability_11 : decode prog_5_method_6_code 11 = .ok (.aload_n 1, 1) := by decide +kernel
theorem d_Fi_becomeCapability_12 : decode prog_5_method_6_code 12 = .ok (.putfield 15, 3) := by decide +kernel
theorem d_Fi_becomeCapability_15 : decode prog_5_method_6_code 15 = .ok (.return_, 1) := by decide +kernel
theorem d_Ca_init_0 : decode prog_2_method_1_code 0 = .ok (.aload_n 0, 1) := by decide +kernel
theorem d_Ca_init_1 : decode prog_2_method_1_code 1 = .ok (.invokespecial 1, 3) := by decide +kernel
theorem d_Ca_init_4 : decode prog_2_method_1_code 4 = .ok (.aload_n 0, 1) := by decide +kernel
theorem d_Ca_init_5 : decode prog_2_method_1_code 5 = .ok (.aload_n 1, 1) := by decide +kernel
theorem d_Ca_init_6 : decode prog_2_method_1_code 6 = .ok (.putfield 7, 3) := by decide +kernel
theorem d_Ca_init_9 : decode prog_2_method_1_code 9 = .ok (.aload_n 0, 1) := by decide +kernel
theorem d_Ca_init_10 : decode prog_2_method_1_code 10 = .ok (.iload_n 2, 1) := by decide +kernel
theorem d_Ca_init_11 : decode prog_2_method_1_code 11 = .ok (.putfield 13, 3) := by decide +kernel
theorem d_Ca_init_14 : decode prog_2_method_1_code 14 = .ok (.aload_n 0, 1) := by decide +kernel
theorem d_Ca_init_15 : decode prog_2_method_1_code 15 = .ok (.aload_n 3, 1) := by decide +kernel
theorem d_Ca_init_16 : decode prog_2_method_1_code 16 = .ok (.putfield 17, 3) := by decide +kernel
theorem d_Ca_init_19 : decode prog_2_method_1_code 19 = .ok (.aload_n 0, 1) := by decide +kernel
theorem d_Ca_init_20 : decode prog_2_method_1_code 20 = .ok (.iload 4, 2) := by decide +kernel
theorem d_Ca_init_22 : decode prog_2_method_1_code 22 = .ok (.putfield 21, 3) := by decide +kernel
theorem d_Ca_init_25 : decode prog_2_method_1_code 25 = .ok (.aload_n 0, 1) := by decide +kernel
theorem d_Ca_init_26 : decode prog_2_method_1_code 26 = .ok (.iload 5, 2) := by decide +kernel
theorem d_Ca_init_28 : decode prog_2_method_1_code 28 = .ok (.putfield 24, 3) := by decide +kernel
theorem d_Ca_init_31 : decode prog_2_method_1_code 31 = .ok (.return_, 1) := by decide +kernel
theorem d_Ca_allows_0 : decode prog_2_method_2_code 0 = .ok (.iload_n 1, 1) := by decide +kernel
theorem d_Ca_allows_1 : decode prog_2_method_2_code 1 = .ok (.aload_n 0, 1) := by decide +kernel
theorem d_Ca_allows_2 : decode prog_2_method_2_code 2 = .ok (.getfield 21, 3) := by decide +kernel
theorem d_Ca_allows_5 : decode prog_2_method_2_code 5 = .ok (.iconst (-1), 1) := by decide +kernel
theorem d_Ca_allows_6 : decode prog_2_method_2_code 6 = .ok (.ixor, 1) := by decide +kernel
theorem d_Ca_allows_7 : decode prog_2_method_2_code 7 = .ok (.iand, 1) := by decide +kernel
theorem d_Ca_allows_8 : decode prog_2_method_2_code 8 = .ok (.ifCond .ne 7, 3) := by decide +kernel
theorem d_Ca_allows_11 : decode prog_2_method_2_code 11 = .ok (.iconst 1, 1) := by decide +kernel
theorem d_Ca_allows_12 : decode prog_2_method_2_code 12 = .ok (.goto 4, 3) := by decide +kernel
theorem d_Ca_allows_15 : decode prog_2_method_2_code 15 = .ok (.iconst 0, 1) := by decide +kernel
theorem d_Ca_allows_16 : decode prog_2_method_2_code 16 = .ok (.ireturn, 1) := by decide +kernel
theorem d_Ca_mustDie_0 : decode prog_2_method_3_code 0 = .ok (.aload_n 0, 1) := by decide +kernel
theorem d_Ca_mustDie_1 : decode prog_2_method_3_code 1 = .ok (.getfield 27, 3) := by decide +kernel
theorem d_Ca_mustDie_4 : decode prog_2_method_3_code 4 = .ok (.ifCond .ne 44, 3) := by decide +kernel
theorem d_Ca_mustDie_7 : decode prog_2_method_3_code 7 = .ok (.aload_n 0, 1) := by decide +kernel
theorem d_Ca_mustDie_8 : decode prog_2_method_3_code 8 = .ok (.getfield 7, 3) := by decide +kernel
theorem d_Ca_mustDie_11 : decode prog_2_method_3_code 11 = .ok (.getfield 31, 3) := by decide +kernel
theorem d_Ca_mustDie_14 : decode prog_2_method_3_code 14 = .ok (.ifCond .ne 34, 3) := by decide +kernel
theorem d_Ca_mustDie_17 : decode prog_2_method_3_code 17 = .ok (.aload_n 0, 1) := by decide +kernel
theorem d_Ca_mustDie_18 : decode prog_2_method_3_code 18 = .ok (.getfield 7, 3) := by decide +kernel
theorem d_Ca_mustDie_21 : decode prog_2_method_3_code 21 = .ok (.aload_n 0, 1) := by decide +kernel
theorem d_Ca_mustDie_22 : decode prog_2_method_3_code 22 = .ok (.getfield 13, 3) := by decide +kernel
theorem d_Ca_mustDie_25 : decode prog_2_method_3_code 25 = .ok (.invokevirtual 36, 3) := by decide +kernel
theorem d_Ca_mustDie_28 : decode prog_2_method_3_code 28 = .ok (.ifCond .eq 20, 3) := by decide +kernel
theorem d_Ca_mustDie_31 : decode prog_2_method_3_code 31 = .ok (.aload_n 0, 1) := by decide +kernel
theorem d_Ca_mustDie_32 : decode prog_2_method_3_code 32 = .ok (.getfield 17, 3) := by decide +kernel
theorem d_Ca_mustDie_35 : decode prog_2_method_3_code 35 = .ok (.ifnull 17, 3) := by decide +kernel
theorem d_Ca_mustDie_38 : decode prog_2_method_3_code 38 = .ok (.aload_n 0, 1) := by decide +kernel
theorem d_Ca_mustDie_39 : decode prog_2_method_3_code 39 = .ok (.getfield 17, 3) := by decide +kernel
theorem d_Ca_mustDie_42 : decode prog_2_method_3_code 42 = .ok (.getfield 40, 3) := by decide +kernel
theorem d_Ca_mustDie_45 : decode prog_2_method_3_code 45 = .ok (.ifCond .eq 7, 3) := by decide +kernel
theorem d_Ca_mustDie_48 : decode prog_2_method_3_code 48 = .ok (.iconst 1, 1) := by decide +kernel
theorem d_Ca_mustDie_49 : decode prog_2_method_3_code 49 = .ok (.goto 4, 3) := by decide +kernel
theorem d_Ca_mustDie_52 : decode prog_2_method_3_code 52 = .ok (.iconst 0, 1) := by decide +kernel
theorem d_Ca_mustDie_53 : decode prog_2_method_3_code 53 = .ok (.ireturn, 1) := by decide +kernel
theorem d_Ca_isUsedUp_0 : decode prog_2_method_4_code 0 = .ok (.aload_n 0, 1) := by decide +kernel
theorem d_Ca_isUsedUp_1 : decode prog_2_method_4_code 1 = .ok (.astore_n 1, 1) := by decide +kernel
theorem d_Ca_isUsedUp_2 : decode prog_2_method_4_code 2 = .ok (.aload_n 1, 1) := by decide +kernel
theorem d_Ca_isUsedUp_3 : decode prog_2_method_4_code 3 = .ok (.ifnull 20, 3) := by decide +kernel
theorem d_Ca_isUsedUp_6 : decode prog_2_method_4_code 6 = .ok (.aload_n 1, 1) := by decide +kernel
theorem d_Ca_isUsedUp_7 : decode prog_2_method_4_code 7 = .ok (.getfield 24, 3) := by decide +kernel
theorem d_Ca_isUsedUp_10 : decode prog_2_method_4_code 10 = .ok (.ifCond .ne 5, 3) := by decide +kernel
theorem d_Ca_isUsedUp_13 : decode prog_2_method_4_code 13 = .ok (.iconst 1, 1) := by decide +kernel
theorem d_Ca_isUsedUp_14 : decode prog_2_method_4_code 14 = .ok (.ireturn, 1) := by decide +kernel
theorem d_Ca_isUsedUp_15 : decode prog_2_method_4_code 15 = .ok (.aload_n 1, 1) := by decide +kernel
theorem d_Ca_isUsedUp_16 : decode prog_2_method_4_code 16 = .ok (.getfield 17, 3) := by decide +kernel
theorem d_Ca_isUsedUp_19 : decode prog_2_method_4_code 19 = .ok (.astore_n 1, 1) := by decide +kernel
theorem d_Ca_isUsedUp_20 : decode prog_2_method_4_code 20 = .ok (.goto (-18), 3) := by decide +kernel
theorem d_Ca_isUsedUp_23 : decode prog_2_method_4_code 23 = .ok (.iconst 0, 1) := by decide +kernel
theorem d_Ca_isUsedUp_24 : decode prog_2_method_4_code 24 = .ok (.ireturn, 1) := by decide +kernel
theorem d_Ca_spendOneUse_0 : decode prog_2_method_5_code 0 = .ok (.aload_n 0, 1) := by decide +kernel
theorem d_Ca_spendOneUse_1 : decode prog_2_method_5_code 1 = .ok (.astore_n 1, 1) := by decide +kernel
theorem d_Ca_spendOneUse_2 : decode prog_2_method_5_code 2 = .ok (.aload_n 1, 1) := by decide +kernel
theorem d_Ca_spendOneUse_3 : decode prog_2_method_5_code 3 = .ok (.ifnull 28, 3) := by decide +kernel
theorem d_Ca_spendOneUse_6 : decode prog_2_method_5_code 6 = .ok (.aload_n 1, 1) := by decide +kernel
theorem d_Ca_spendOneUse_7 : decode prog_2_method_5_code 7 = .ok (.getfield 24, 3) := by decide +kernel
theorem d_Ca_spendOneUse_10 : decode prog_2_method_5_code 10 = .ok (.ifCond .le 13, 3) := by decide +kernel
theorem d_Ca_spendOneUse_13 : decode prog_2_method_5_code 13 = .ok (.aload_n 1, 1) := by decide +kernel
theorem d_Ca_spendOneUse_14 : decode prog_2_method_5_code 14 = .ok (.dup, 1) := by decide +kernel
theorem d_Ca_spendOneUse_15 : decode prog_2_method_5_code 15 = .ok (.getfield 24, 3) := by decide +kernel
theorem d_Ca_spendOneUse_18 : decode prog_2_method_5_code 18 = .ok (.iconst 1, 1) := by decide +kernel
theorem d_Ca_spendOneUse_19 : decode prog_2_method_5_code 19 = .ok (.isub, 1) := by decide +kernel
theorem d_Ca_spendOneUse_20 : decode prog_2_method_5_code 20 = .ok (.putfield 24, 3) := by decide +kernel
theorem d_Ca_spendOneUse_23 : decode prog_2_method_5_code 23 = .ok (.aload_n 1, 1) := by decide +kernel
theorem d_Ca_spendOneUse_24 : decode prog_2_method_5_code 24 = .ok (.getfield 17, 3) := by decide +kernel
theorem d_Ca_spendOneUse_27 : decode prog_2_method_5_code 27 = .ok (.astore_n 1, 1) := by decide +kernel
theorem d_Ca_spendOneUse_28 : decode prog_2_method_5_code 28 = .ok (.goto (-26), 3) := by decide +kernel
theorem d_Ca_spendOneUse_31 : decode prog_2_method_5_code 31 = .ok (.return_, 1) := by decide +kernel
theorem d_Re_init_0 : decode prog_6_method_1_code 0 = .ok (.aload_n 0, 1) := by decide +kernel
theorem d_Re_init_1 : decode prog_6_method_1_code 1 = .ok (.invokespecial 3, 3) := by decide +kernel
theorem d_Re_init_4 : decode prog_6_method_1_code 4 = .ok (.aload_n 0, 1) := by decide +kernel
theorem d_Re_init_5 : decode prog_6_method_1_code 5 = .ok (.bipush 12, 2) := by decide +kernel
theorem d_Re_init_7 : decode prog_6_method_1_code 7 = .ok (.newarray .int, 2) := by decide +kernel
theorem d_Re_init_9 : decode prog_6_method_1_code 9 = .ok (.putfield 9, 3) := by decide +kernel
theorem d_Re_init_12 : decode prog_6_method_1_code 12 = .ok (.aload_n 0, 1) := by decide +kernel
theorem d_Re_init_13 : decode prog_6_method_1_code 13 = .ok (.bipush 12, 2) := by decide +kernel
theorem d_Re_init_15 : decode prog_6_method_1_code 15 = .ok (.newarray .int, 2) := by decide +kernel
theorem d_Re_init_17 : decode prog_6_method_1_code 17 = .ok (.putfield 15, 3) := by decide +kernel
theorem d_Re_init_20 : decode prog_6_method_1_code 20 = .ok (.aload_n 0, 1) := by decide +kernel
theorem d_Re_init_21 : decode prog_6_method_1_code 21 = .ok (.bipush 12, 2) := by decide +kernel
theorem d_Re_init_23 : decode prog_6_method_1_code 23 = .ok (.newarray .boolean, 2) := by decide +kernel
theorem d_Re_init_25 : decode prog_6_method_1_code 25 = .ok (.putfield 18, 3) := by decide +kernel
theorem d_Re_init_28 : decode prog_6_method_1_code 28 = .ok (.return_, 1) := by decide +kernel
theorem d_Re_start_0 : decode prog_6_method_2_code 0 = .ok (.aload_n 0, 1) := by decide +kernel
theorem d_Re_start_1 : decode prog_6_method_2_code 1 = .ok (.aload_n 1, 1) := by decide +kernel
theorem d_Re_start_2 : decode prog_6_method_2_code 2 = .ok (.putfield 22, 3) := by decide +kernel
theorem d_Re_start_5 : decode prog_6_method_2_code 5 = .ok (.aload_n 0, 1) := by decide +kernel
theorem d_Re_start_6 : decode prog_6_method_2_code 6 = .ok (.iconst 0, 1) := by decide +kernel
theorem d_Re_start_7 : decode prog_6_method_2_code 7 = .ok (.putfield 26, 3) := by decide +kernel
theorem d_Re_start_10 : decode prog_6_method_2_code 10 = .ok (.iconst 0, 1) := by decide +kernel
theorem d_Re_start_11 : decode prog_6_method_2_code 11 = .ok (.istore_n 3, 1) := by decide +kernel
theorem d_Re_start_12 : decode prog_6_method_2_code 12 = .ok (.iload_n 3, 1) := by decide +kernel
theorem d_Re_start_13 : decode prog_6_method_2_code 13 = .ok (.bipush 12, 2) := by decide +kernel
theorem d_Re_start_15 : decode prog_6_method_2_code 15 = .ok (.if_icmp .ge 16, 3) := by decide +kernel
theorem d_Re_start_18 : decode prog_6_method_2_code 18 = .ok (.aload_n 0, 1) := by decide +kernel
theorem d_Re_start_19 : decode prog_6_method_2_code 19 = .ok (.getfield 18, 3) := by decide +kernel
theorem d_Re_start_22 : decode prog_6_method_2_code 22 = .ok (.iload_n 3, 1) := by decide +kernel
theorem d_Re_start_23 : decode prog_6_method_2_code 23 = .ok (.iconst 0, 1) := by decide +kernel
theorem d_Re_start_24 : decode prog_6_method_2_code 24 = .ok (.bastore, 1) := by decide +kernel
theorem d_Re_start_25 : decode prog_6_method_2_code 25 = .ok (.iinc 3 1, 3) := by decide +kernel
theorem d_Re_start_28 : decode prog_6_method_2_code 28 = .ok (.goto (-16), 3) := by decide +kernel
theorem d_Re_start_31 : decode prog_6_method_2_code 31 = .ok (.aload_n 0, 1) := by decide +kernel
theorem d_Re_start_32 : decode prog_6_method_2_code 32 = .ok (.iload_n 2, 1) := by decide +kernel
theorem d_Re_start_33 : decode prog_6_method_2_code 33 = .ok (.iconst 0, 1) := by decide +kernel
theorem d_Re_start_34 : decode prog_6_method_2_code 34 = .ok (.invokevirtual 30, 3) := by decide +kernel
theorem d_Re_start_37 : decode prog_6_method_2_code 37 = .ok (.return_, 1) := by decide +kernel
theorem d_Re_comeTo_0 : decode prog_6_method_3_code 0 = .ok (.iload_n 2, 1) := by decide +kernel
theorem d_Re_comeTo_1 : decode prog_6_method_3_code 1 = .ok (.bipush 12, 2) := by decide +kernel
theorem d_Re_comeTo_3 : decode prog_6_method_3_code 3 = .ok (.if_icmp .ge 23, 3) := by decide +kernel
theorem d_Re_comeTo_6 : decode prog_6_method_3_code 6 = .ok (.aload_n 0, 1) := by decide +kernel
theorem d_Re_comeTo_7 : decode prog_6_method_3_code 7 = .ok (.getfield 22, 3) := by decide +kernel
theorem d_Re_comeTo_10 : decode prog_6_method_3_code 10 = .ok (.iload_n 1, 1) := by decide +kernel
theorem d_Re_comeTo_11 : decode prog_6_method_3_code 11 = .ok (.invokevirtual 34, 3) := by decide +kernel
theorem d_Re_comeTo_14 : decode prog_6_method_3_code 14 = .ok (.ifCond .eq 12, 3) := by decide +kernel
theorem d_Re_comeTo_17 : decode prog_6_method_3_code 17 = .ok (.aload_n 0, 1) := by decide +kernel
theorem d_Re_comeTo_18 : decode prog_6_method_3_code 18 = .ok (.getfield 18, 3) := by decide +kernel
theorem d_Re_comeTo_21 : decode prog_6_method_3_code 21 = .ok (.iload_n 1, 1) := by decide +kernel
theorem d_Re_comeTo_22 : decode prog_6_method_3_code 22 = .ok (.baload, 1) := by decide +kernel
theorem d_Re_comeTo_23 : decode prog_6_method_3_code 23 = .ok (.ifCond .eq 4, 3) := by decide +kernel
theorem d_Re_comeTo_26 : decode prog_6_method_3_code 26 = .ok (.return_, 1) := by decide +kernel
theorem d_Re_comeTo_27 : decode prog_6_method_3_code 27 = .ok (.aload_n 0, 1) := by decide +kernel
theorem d_Re_comeTo_28 : decode prog_6_method_3_code 28 = .ok (.getfield 18, 3) := by decide +kernel
theorem d_Re_comeTo_31 : decode prog_6_method_3_code 31 = .ok (.iload_n 1, 1) := by decide +kernel
theorem d_Re_comeTo_32 : decode prog_6_method_3_code 32 = .ok (.iconst 1, 1) := by decide +kernel
theorem d_Re_comeTo_33 : decode prog_6_method_3_code 33 = .ok (.bastore, 1) := by decide +kernel
theorem d_Re_comeTo_34 : decode prog_6_method_3_code 34 = .ok (.aload_n 0, 1) := by decide +kernel
theorem d_Re_comeTo_35 : decode prog_6_method_3_code 35 = .ok (.getfield 15, 3) := by decide +kernel
theorem d_Re_comeTo_38 : decode prog_6_method_3_code 38 = .ok (.aload_n 0, 1) := by decide +kernel
theorem d_Re_comeTo_39 : decode prog_6_method_3_code 39 = .ok (.getfield 26, 3) := by decide +kernel
theorem d_Re_comeTo_42 : decode prog_6_method_3_code 42 = .ok (.iload_n 1, 1) := by decide +kernel
theorem d_Re_comeTo_43 : decode prog_6_method_3_code 43 = .ok (.iastore, 1) := by decide +kernel
theorem d_Re_comeTo_44 : decode prog_6_method_3_code 44 = .ok (.aload_n 0, 1) := by decide +kernel
theorem d_Re_comeTo_45 : decode prog_6_method_3_code 45 = .ok (.dup, 1) := by decide +kernel
theorem d_Re_comeTo_46 : decode prog_6_method_3_code 46 = .ok (.getfield 26, 3) := by decide +kernel
theorem d_Re_comeTo_49 : decode prog_6_method_3_code 49 = .ok (.iconst 1, 1) := by decide +kernel
theorem d_Re_comeTo_50 : decode prog_6_method_3_code 50 = .ok (.iadd, 1) := by decide +kernel
theorem d_Re_comeTo_51 : decode prog_6_method_3_code 51 = .ok (.putfield 26, 3) := by decide +kernel
theorem d_Re_comeTo_54 : decode prog_6_method_3_code 54 = .ok (.iconst 0, 1) := by decide +kernel
theorem d_Re_comeTo_55 : decode prog_6_method_3_code 55 = .ok (.istore_n 3, 1) := by decide +kernel
theorem d_Re_comeTo_56 : decode prog_6_method_3_code 56 = .ok (.iload_n 3, 1) := by decide +kernel
theorem d_Re_comeTo_57 : decode prog_6_method_3_code 57 = .ok (.iconst 3, 1) := by decide +kernel
theorem d_Re_comeTo_58 : decode prog_6_method_3_code 58 = .ok (.if_icmp .ge 33, 3) := by decide +kernel
theorem d_Re_comeTo_61 : decode prog_6_method_3_code 61 = .ok (.aload_n 0, 1) := by decide +kernel
theorem d_Re_comeTo_62 : decode prog_6_method_3_code 62 = .ok (.aload_n 0, 1) := by decide +kernel
theorem d_Re_comeTo_63 : decode prog_6_method_3_code 63 = .ok (.getfield 22, 3) := by decide +kernel
theorem d_Re_comeTo_66 : decode prog_6_method_3_code 66 = .ok (.getfield 40, 3) := by decide +kernel
theorem d_Re_comeTo_69 : decode prog_6_method_3_code 69 = .ok (.iload_n 1, 1) := by decide +kernel
theorem d_Re_comeTo_70 : decode prog_6_method_3_code 70 = .ok (.aaload, 1) := by decide +kernel
theorem d_Re_comeTo_71 : decode prog_6_method_3_code 71 = .ok (.getfield 44, 3) := by decide +kernel
theorem d_Re_comeTo_74 : decode prog_6_method_3_code 74 = .ok (.iload_n 3, 1) := by decide +kernel
theorem d_Re_comeTo_75 : decode prog_6_method_3_code 75 = .ok (.aaload, 1) := by decide +kernel
theorem d_Re_comeTo_76 : decode prog_6_method_3_code 76 = .ok (.getfield 50, 3) := by decide +kernel
theorem d_Re_comeTo_79 : decode prog_6_method_3_code 79 = .ok (.iload_n 2, 1) := by decide +kernel
theorem d_Re_comeTo_80 : decode prog_6_method_3_code 80 = .ok (.iconst 1, 1) := by decide +kernel
theorem d_Re_comeTo_81 : decode prog_6_method_3_code 81 = .ok (.iadd, 1) := by decide +kernel
theorem d_Re_comeTo_82 : decode prog_6_method_3_code 82 = .ok (.invokevirtual 30, 3) := by decide +kernel
theorem d_Re_comeTo_85 : decode prog_6_method_3_code 85 = .ok (.iinc 3 1, 3) := by decide +kernel
theorem d_Re_comeTo_88 : decode prog_6_method_3_code 88 = .ok (.goto (-32), 3) := by decide +kernel
theorem d_Re_comeTo_91 : decode prog_6_method_3_code 91 = .ok (.return_, 1) := by decide +kernel
theorem d_Re_copyInto_0 : decode prog_6_method_4_code 0 = .ok (.iconst 0, 1) := by decide +kernel
theorem d_Re_copyInto_1 : decode prog_6_method_4_code 1 = .ok (.istore_n 2, 1) := by decide +kernel
theorem d_Re_copyInto_2 : decode prog_6_method_4_code 2 = .ok (.iload_n 2, 1) := by decide +kernel
theorem d_Re_copyInto_3 : decode prog_6_method_4_code 3 = .ok (.aload_n 0, 1) := by decide +kernel
theorem d_Re_copyInto_4 : decode prog_6_method_4_code 4 = .ok (.getfield 26, 3) := by decide +kernel
theorem d_Re_copyInto_7 : decode prog_6_method_4_code 7 = .ok (.if_icmp .ge 24, 3) := by decide +kernel
theorem d_Re_copyInto_10 : decode prog_6_method_4_code 10 = .ok (.aload_n 0, 1) := by decide +kernel
theorem d_Re_copyInto_11 : decode prog_6_method_4_code 11 = .ok (.getfield 9, 3) := by decide +kernel
theorem d_Re_copyInto_14 : decode prog_6_method_4_code 14 = .ok (.aload_n 0, 1) := by decide +kernel
theorem d_Re_copyInto_15 : decode prog_6_method_4_code 15 = .ok (.getfield 15, 3) := by decide +kernel
theorem d_Re_copyInto_18 : decode prog_6_method_4_code 18 = .ok (.iload_n 2, 1) := by decide +kernel
theorem d_Re_copyInto_19 : decode prog_6_method_4_code 19 = .ok (.iaload, 1) := by decide +kernel
theorem d_Re_copyInto_20 : decode prog_6_method_4_code 20 = .ok (.aload_n 1, 1) := by decide +kernel
theorem d_Re_copyInto_21 : decode prog_6_method_4_code 21 = .ok (.invokevirtual 55, 3) := by decide +kernel
theorem d_Re_copyInto_24 : decode prog_6_method_4_code 24 = .ok (.iastore, 1) := by decide +kernel
theorem d_Re_copyInto_25 : decode prog_6_method_4_code 25 = .ok (.iinc 2 1, 3) := by decide +kernel
theorem d_Re_copyInto_28 : decode prog_6_method_4_code 28 = .ok (.goto (-26), 3) := by decide +kernel
theorem d_Re_copyInto_31 : decode prog_6_method_4_code 31 = .ok (.iconst 0, 1) := by decide +kernel
theorem d_Re_copyInto_32 : decode prog_6_method_4_code 32 = .ok (.istore_n 2, 1) := by decide +kernel
theorem d_Re_copyInto_33 : decode prog_6_method_4_code 33 = .ok (.iload_n 2, 1) := by decide +kernel
theorem d_Re_copyInto_34 : decode prog_6_method_4_code 34 = .ok (.aload_n 0, 1) := by decide +kernel
theorem d_Re_copyInto_35 : decode prog_6_method_4_code 35 = .ok (.getfield 26, 3) := by decide +kernel
theorem d_Re_copyInto_38 : decode prog_6_method_4_code 38 = .ok (.if_icmp .ge 43, 3) := by decide +kernel
theorem d_Re_copyInto_41 : decode prog_6_method_4_code 41 = .ok (.aload_n 0, 1) := by decide +kernel
theorem d_Re_copyInto_42 : decode prog_6_method_4_code 42 = .ok (.aload_n 0, 1) := by decide +kernel
theorem d_Re_copyInto_43 : decode prog_6_method_4_code 43 = .ok (.getfield 22, 3) := by decide +kernel
theorem d_Re_copyInto_46 : decode prog_6_method_4_code 46 = .ok (.getfield 40, 3) := by decide +kernel
theorem d_Re_copyInto_49 : decode prog_6_method_4_code 49 = .ok (.aload_n 0, 1) := by decide +kernel
theorem d_Re_copyInto_50 : decode prog_6_method_4_code 50 = .ok (.getfield 15, 3) := by decide +kernel
theorem d_Re_copyInto_53 : decode prog_6_method_4_code 53 = .ok (.iload_n 2, 1) := by decide +kernel
theorem d_Re_copyInto_54 : decode prog_6_method_4_code 54 = .ok (.iaload, 1) := by decide +kernel
theorem d_Re_copyInto_55 : decode prog_6_method_4_code 55 = .ok (.aaload, 1) := by decide +kernel
theorem d_Re_copyInto_56 : decode prog_6_method_4_code 56 = .ok (.aload_n 1, 1) := by decide +kernel
theorem d_Re_copyInto_57 : decode prog_6_method_4_code 57 = .ok (.getfield 40, 3) := by decide +kernel
theorem d_Re_copyInto_60 : decode prog_6_method_4_code 60 = .ok (.aload_n 0, 1) := by decide +kernel
theorem d_Re_copyInto_61 : decode prog_6_method_4_code 61 = .ok (.getfield 9, 3) := by decide +kernel
theorem d_Re_copyInto_64 : decode prog_6_method_4_code 64 = .ok (.aload_n 0, 1) := by decide +kernel
theorem d_Re_copyInto_65 : decode prog_6_method_4_code 65 = .ok (.getfield 15, 3) := by decide +kernel
theorem d_Re_copyInto_68 : decode prog_6_method_4_code 68 = .ok (.iload_n 2, 1) := by decide +kernel
theorem d_Re_copyInto_69 : decode prog_6_method_4_code 69 = .ok (.iaload, 1) := by decide +kernel
theorem d_Re_copyInto_70 : decode prog_6_method_4_code 70 = .ok (.iaload, 1) := by decide +kernel
theorem d_Re_copyInto_71 : decode prog_6_method_4_code 71 = .ok (.aaload, 1) := by decide +kernel
theorem d_Re_copyInto_72 : decode prog_6_method_4_code 72 = .ok (.invokevirtual 59, 3) := by decide +kernel
theorem d_Re_copyInto_75 : decode prog_6_method_4_code 75 = .ok (.iinc 2 1, 3) := by decide +kernel
theorem d_Re_copyInto_78 : decode prog_6_method_4_code 78 = .ok (.goto (-45), 3) := by decide +kernel
theorem d_Re_copyInto_81 : decode prog_6_method_4_code 81 = .ok (.return_, 1) := by decide +kernel
theorem d_Re_copyFields_0 : decode prog_6_method_5_code 0 = .ok (.iconst 0, 1) := by decide +kernel
theorem d_Re_copyFields_1 : decode prog_6_method_5_code 1 = .ok (.istore_n 3, 1) := by decide +kernel
theorem d_Re_copyFields_2 : decode prog_6_method_5_code 2 = .ok (.iload_n 3, 1) := by decide +kernel
theorem d_Re_copyFields_3 : decode prog_6_method_5_code 3 = .ok (.iconst 3, 1) := by decide +kernel
theorem d_Re_copyFields_4 : decode prog_6_method_5_code 4 = .ok (.if_icmp .ge 86, 3) := by decide +kernel
theorem d_Re_copyFields_7 : decode prog_6_method_5_code 7 = .ok (.aload_n 1, 1) := by decide +kernel
theorem d_Re_copyFields_8 : decode prog_6_method_5_code 8 = .ok (.getfield 44, 3) := by decide +kernel
theorem d_Re_copyFields_11 : decode prog_6_method_5_code 11 = .ok (.iload_n 3, 1) := by decide +kernel
theorem d_Re_copyFields_12 : decode prog_6_method_5_code 12 = .ok (.aaload, 1) := by decide +kernel
theorem d_Re_copyFields_13 : decode prog_6_method_5_code 13 = .ok (.astore 4, 2) := by decide +kernel
theorem d_Re_copyFields_15 : decode prog_6_method_5_code 15 = .ok (.aload 4, 2) := by decide +kernel
theorem d_Re_copyFields_17 : decode prog_6_method_5_code 17 = .ok (.invokevirtual 63, 3) := by decide +kernel
theorem d_Re_copyFields_20 : decode prog_6_method_5_code 20 = .ok (.ifCond .eq 25, 3) := by decide +kernel
theorem d_Re_copyFields_23 : decode prog_6_method_5_code 23 = .ok (.aload_n 2, 1) := by decide +kernel
theorem d_Re_copyFields_24 : decode prog_6_method_5_code 24 = .ok (.getfield 44, 3) := by decide +kernel
theorem d_Re_copyFields_27 : decode prog_6_method_5_code 27 = .ok (.iload_n 3, 1) := by decide +kernel
theorem d_Re_copyFields_28 : decode prog_6_method_5_code 28 = .ok (.aaload, 1) := by decide +kernel
theorem d_Re_copyFields_29 : decode prog_6_method_5_code 29 = .ok (.aload_n 0, 1) := by decide +kernel
theorem d_Re_copyFields_30 : decode prog_6_method_5_code 30 = .ok (.getfield 9, 3) := by decide +kernel
theorem d_Re_copyFields_33 : decode prog_6_method_5_code 33 = .ok (.aload 4, 2) := by decide +kernel
theorem d_Re_copyFields_35 : decode prog_6_method_5_code 35 = .ok (.getfield 50, 3) := by decide +kernel
theorem d_Re_copyFields_38 : decode prog_6_method_5_code 38 = .ok (.iaload, 1) := by decide +kernel
theorem d_Re_copyFields_39 : decode prog_6_method_5_code 39 = .ok (.invokevirtual 67, 3) := by decide +kernel
theorem d_Re_copyFields_42 : decode prog_6_method_5_code 42 = .ok (.goto 42, 3) := by decide +kernel
theorem d_Re_copyFields_45 : decode prog_6_method_5_code 45 = .ok (.aload 4, 2) := by decide +kernel
theorem d_Re_copyFields_47 : decode prog_6_method_5_code 47 = .ok (.getfield 71, 3) := by decide +kernel
theorem d_Re_copyFields_50 : decode prog_6_method_5_code 50 = .ok (.ifnull 20, 3) := by decide +kernel
theorem d_Re_copyFields_53 : decode prog_6_method_5_code 53 = .ok (.aload_n 2, 1) := by decide +kernel
theorem d_Re_copyFields_54 : decode prog_6_method_5_code 54 = .ok (.getfield 44, 3) := by decide +kernel
theorem d_Re_copyFields_57 : decode prog_6_method_5_code 57 = .ok (.iload_n 3, 1) := by decide +kernel
theorem d_Re_copyFields_58 : decode prog_6_method_5_code 58 = .ok (.aaload, 1) := by decide +kernel
theorem d_Re_copyFields_59 : decode prog_6_method_5_code 59 = .ok (.aload 4, 2) := by decide +kernel
theorem d_Re_copyFields_61 : decode prog_6_method_5_code 61 = .ok (.getfield 71, 3) := by decide +kernel
theorem d_Re_copyFields_64 : decode prog_6_method_5_code 64 = .ok (.invokevirtual 75, 3) := by decide +kernel
theorem d_Re_copyFields_67 : decode prog_6_method_5_code 67 = .ok (.goto 17, 3) := by decide +kernel
theorem d_Re_copyFields_70 : decode prog_6_method_5_code 70 = .ok (.aload_n 2, 1) := by decide +kernel
theorem d_Re_copyFields_71 : decode prog_6_method_5_code 71 = .ok (.getfield 44, 3) := by decide +kernel
theorem d_Re_copyFields_74 : decode prog_6_method_5_code 74 = .ok (.iload_n 3, 1) := by decide +kernel
theorem d_Re_copyFields_75 : decode prog_6_method_5_code 75 = .ok (.aaload, 1) := by decide +kernel
theorem d_Re_copyFields_76 : decode prog_6_method_5_code 76 = .ok (.aload 4, 2) := by decide +kernel
theorem d_Re_copyFields_78 : decode prog_6_method_5_code 78 = .ok (.getfield 79, 3) := by decide +kernel
theorem d_Re_copyFields_81 : decode prog_6_method_5_code 81 = .ok (.invokevirtual 82, 3) := by decide +kernel
theorem d_Re_copyFields_84 : decode prog_6_method_5_code 84 = .ok (.iinc 3 1, 3) := by decide +kernel
theorem d_Re_copyFields_87 : decode prog_6_method_5_code 87 = .ok (.goto (-85), 3) := by decide +kernel
theorem d_Re_copyFields_90 : decode prog_6_method_5_code 90 = .ok (.return_, 1) := by decide +kernel
end
section
theorem d_Mo_init_0 : decode prog_8_method_1_code 0 = .ok (.aload_n 0, 1) := by decide +kernel
theorem d_Mo_init_1 : decode prog_8_method_1_code 1 = .ok (.invokespecial 1, 3) := by decide +kernel
theorem d_Mo_init_4 : decode prog_8_method_1_code 4 = .ok (.aload_n 0, 1) := by decide +kernel
theorem d_Mo_init_5 : decode prog_8_method_1_code 5 = .ok (.iconst 0, 1) := by decide +kernel
theorem d_Mo_init_6 : decode prog_8_method_1_code 6 = .ok (.putfield 7, 3) := by decide +kernel
theorem d_Mo_init_9 : decode prog_8_method_1_code 9 = .ok (.aload_n 0, 1) := by decide +kernel
theorem d_Mo_init_10 : decode prog_8_method_1_code 10 = .ok (.iconst 0, 1) := by decide +kernel
theorem d_Mo_init_11 : decode prog_8_method_1_code 11 = .ok (.putfield 13, 3) := by decide +kernel
theorem d_Mo_init_14 : decode prog_8_method_1_code 14 = .ok (.aload_n 0, 1) := by decide +kernel
theorem d_Mo_init_15 : decode prog_8_method_1_code 15 = .ok (.iconst 0, 1) := by decide +kernel
theorem d_Mo_init_16 : decode prog_8_method_1_code 16 = .ok (.putfield 16, 3) := by decide +kernel
theorem d_Mo_init_19 : decode prog_8_method_1_code 19 = .ok (.aload_n 0, 1) := by decide +kernel
theorem d_Mo_init_20 : decode prog_8_method_1_code 20 = .ok (.bipush 6, 2) := by decide +kernel
theorem d_Mo_init_22 : decode prog_8_method_1_code 22 = .ok (.newarray .boolean, 2) := by decide +kernel
theorem d_Mo_init_24 : decode prog_8_method_1_code 24 = .ok (.putfield 19, 3) := by decide +kernel
theorem d_Mo_init_27 : decode prog_8_method_1_code 27 = .ok (.aload_n 0, 1) := by decide +kernel
theorem d_Mo_init_28 : decode prog_8_method_1_code 28 = .ok (.bipush 72, 2) := by decide +kernel
theorem d_Mo_init_30 : decode prog_8_method_1_code 30 = .ok (.newarray .boolean, 2) := by decide +kernel
theorem d_Mo_init_32 : decode prog_8_method_1_code 32 = .ok (.putfield 23, 3) := by decide +kernel
theorem d_Mo_init_35 : decode prog_8_method_1_code 35 = .ok (.aload_n 0, 1) := by decide +kernel
theorem d_Mo_init_36 : decode prog_8_method_1_code 36 = .ok (.sipush 216, 3) := by decide +kernel
theorem d_Mo_init_39 : decode prog_8_method_1_code 39 = .ok (.newarray .int, 2) := by decide +kernel
theorem d_Mo_init_41 : decode prog_8_method_1_code 41 = .ok (.putfield 26, 3) := by decide +kernel
theorem d_Mo_init_44 : decode prog_8_method_1_code 44 = .ok (.aload_n 0, 1) := by decide +kernel
theorem d_Mo_init_45 : decode prog_8_method_1_code 45 = .ok (.sipush 216, 3) := by decide +kernel
theorem d_Mo_init_48 : decode prog_8_method_1_code 48 = .ok (.newarray .int, 2) := by decide +kernel
theorem d_Mo_init_50 : decode prog_8_method_1_code 50 = .ok (.putfield 30, 3) := by decide +kernel
theorem d_Mo_init_53 : decode prog_8_method_1_code 53 = .ok (.aload_n 0, 1) := by decide +kernel
theorem d_Mo_init_54 : decode prog_8_method_1_code 54 = .ok (.bipush 48, 2) := by decide +kernel
theorem d_Mo_init_56 : decode prog_8_method_1_code 56 = .ok (.newarray .int, 2) := by decide +kernel
theorem d_Mo_init_58 : decode prog_8_method_1_code 58 = .ok (.putfield 33, 3) := by decide +kernel
theorem d_Mo_init_61 : decode prog_8_method_1_code 61 = .ok (.aload_n 0, 1) := by decide +kernel
theorem d_Mo_init_62 : decode prog_8_method_1_code 62 = .ok (.bipush 40, 2) := by decide +kernel
theorem d_Mo_init_64 : decode prog_8_method_1_code 64 = .ok (.newarray .int, 2) := by decide +kernel
theorem d_Mo_init_66 : decode prog_8_method_1_code 66 = .ok (.putfield 36, 3) := by decide +kernel
theorem d_Mo_init_69 : decode prog_8_method_1_code 69 = .ok (.aload_n 0, 1) := by decide +kernel
theorem d_Mo_init_70 : decode prog_8_method_1_code 70 = .ok (.bipush 40, 2) := by decide +kernel
theorem d_Mo_init_72 : decode prog_8_method_1_code 72 = .ok (.newarray .int, 2) := by decide +kernel
theorem d_Mo_init_74 : decode prog_8_method_1_code 74 = .ok (.putfield 39, 3) := by decide +kernel
theorem d_Mo_init_77 : decode prog_8_method_1_code 77 = .ok (.aload_n 0, 1) := by decide +kernel
theorem d_Mo_init_78 : decode prog_8_method_1_code 78 = .ok (.bipush 40, 2) := by decide +kernel
theorem d_Mo_init_80 : decode prog_8_method_1_code 80 = .ok (.newarray .int, 2) := by decide +kernel
theorem d_Mo_init_82 : decode prog_8_method_1_code 82 = .ok (.putfield 42, 3) := by decide +kernel
theorem d_Mo_init_85 : decode prog_8_method_1_code 85 = .ok (.aload_n 0, 1) := by decide +kernel
theorem d_Mo_init_86 : decode prog_8_method_1_code 86 = .ok (.bipush 40, 2) := by decide +kernel
theorem d_Mo_init_88 : decode prog_8_method_1_code 88 = .ok (.newarray .int, 2) := by decide +kernel
theorem d_Mo_init_90 : decode prog_8_method_1_code 90 = .ok (.putfield 45, 3) := by decide +kernel
theorem d_Mo_init_93 : decode prog_8_method_1_code 93 = .ok (.aload_n 0, 1) := by decide +kernel
theorem d_Mo_init_94 : decode prog_8_method_1_code 94 = .ok (.bipush 40, 2) := by decide +kernel
theorem d_Mo_init_96 : decode prog_8_method_1_code 96 = .ok (.newarray .boolean, 2) := by decide +kernel
theorem d_Mo_init_98 : decode prog_8_method_1_code 98 = .ok (.putfield 48, 3) := by decide +kernel
theorem d_Mo_init_101 : decode prog_8_method_1_code 101 = .ok (.aload_n 0, 1) := by decide +kernel
theorem d_Mo_init_102 : decode prog_8_method_1_code 102 = .ok (.bipush 12, 2) := by decide +kernel
theorem d_Mo_init_104 : decode prog_8_method_1_code 104 = .ok (.newarray .int, 2) := by decide +kernel
theorem d_Mo_init_106 : decode prog_8_method_1_code 106 = .ok (.putfield 51, 3) := by decide +kernel
theorem d_Mo_init_109 : decode prog_8_method_1_code 109 = .ok (.aload_n 0, 1) := by decide +kernel
theorem d_Mo_init_110 : decode prog_8_method_1_code 110 = .ok (.bipush 12, 2) := by decide +kernel
theorem d_Mo_init_112 : decode prog_8_method_1_code 112 = .ok (.newarray .int, 2) := by decide +kernel
theorem d_Mo_init_114 : decode prog_8_method_1_code 114 = .ok (.putfield 54, 3) := by decide +kernel
theorem d_Mo_init_117 : decode prog_8_method_1_code 117 = .ok (.aload_n 0, 1) := by decide +kernel
theorem d_Mo_init_118 : decode prog_8_method_1_code 118 = .ok (.bipush 12, 2) := by decide +kernel
theorem d_Mo_init_120 : decode prog_8_method_1_code 120 = .ok (.newarray .int, 2) := by decide +kernel
theorem d_Mo_init_122 : decode prog_8_method_1_code 122 = .ok (.putfield 57, 3) := by decide +kernel
theorem d_Mo_init_125 : decode prog_8_method_1_code 125 = .ok (.aload_n 0, 1) := by decide +kernel
theorem d_Mo_init_126 : decode prog_8_method_1_code 126 = .ok (.bipush 12, 2) := by decide +kernel
theorem d_Mo_init_128 : decode prog_8_method_1_code 128 = .ok (.newarray .int, 2) := by decide +kernel
theorem d_Mo_init_130 : decode prog_8_method_1_code 130 = .ok (.putfield 60, 3) := by decide +kernel
theorem d_Mo_init_133 : decode prog_8_method_1_code 133 = .ok (.aload_n 0, 1) := by decide +kernel
theorem d_Mo_init_134 : decode prog_8_method_1_code 134 = .ok (.iconst 0, 1) := by decide +kernel
theorem d_Mo_init_135 : decode prog_8_method_1_code 135 = .ok (.putfield 63, 3) := by decide +kernel
theorem d_Mo_init_138 : decode prog_8_method_1_code 138 = .ok (.iconst 0, 1) := by decide +kernel
theorem d_Mo_init_139 : decode prog_8_method_1_code 139 = .ok (.istore_n 1, 1) := by decide +kernel
theorem d_Mo_init_140 : decode prog_8_method_1_code 140 = .ok (.iload_n 1, 1) := by decide +kernel
theorem d_Mo_init_141 : decode prog_8_method_1_code 141 = .ok (.bipush 48, 2) := by decide +kernel
theorem d_Mo_init_143 : decode prog_8_method_1_code 143 = .ok (.if_icmp .ge 16, 3) := by decide +kernel
theorem d_Mo_init_146 : decode prog_8_method_1_code 146 = .ok (.aload_n 0, 1) := by decide +kernel
theorem d_Mo_init_147 : decode prog_8_method_1_code 147 = .ok (.getfield 33, 3) := by decide +kernel
theorem d_Mo_init_150 : decode prog_8_method_1_code 150 = .ok (.iload_n 1, 1) := by decide +kernel
theorem d_Mo_init_151 : decode prog_8_method_1_code 151 = .ok (.iconst (-1), 1) := by decide +kernel
theorem d_Mo_init_152 : decode prog_8_method_1_code 152 = .ok (.iastore, 1) := by decide +kernel
theorem d_Mo_init_153 : decode prog_8_method_1_code 153 = .ok (.iinc 1 1, 3) := by decide +kernel
theorem d_Mo_init_156 : decode prog_8_method_1_code 156 = .ok (.goto (-16), 3) := by decide +kernel
theorem d_Mo_init_159 : decode prog_8_method_1_code 159 = .ok (.return_, 1) := by decide +kernel
theorem d_Mo_thrown_0 : decode prog_8_method_2_code 0 = .ok (.aload_n 0, 1) := by decide +kernel
theorem d_Mo_thrown_1 : decode prog_8_method_2_code 1 = .ok (.getfield 16, 3) := by decide +kernel
theorem d_Mo_thrown_4 : decode prog_8_method_2_code 4 = .ok (.ireturn, 1) := by decide +kernel
theorem d_Mo_fail_0 : decode prog_8_method_3_code 0 = .ok (.aload_n 0, 1) := by decide +kernel
theorem d_Mo_fail_1 : decode prog_8_method_3_code 1 = .ok (.iload_n 1, 1) := by decide +kernel
theorem d_Mo_fail_2 : decode prog_8_method_3_code 2 = .ok (.putfield 16, 3) := by decide +kernel
theorem d_Mo_fail_5 : decode prog_8_method_3_code 5 = .ok (.iconst 0, 1) := by decide +kernel
theorem d_Mo_fail_6 : decode prog_8_method_3_code 6 = .ok (.ireturn, 1) := by decide +kernel
theorem d_Mo_fine_0 : decode prog_8_method_4_code 0 = .ok (.aload_n 0, 1) := by decide +kernel
theorem d_Mo_fine_1 : decode prog_8_method_4_code 1 = .ok (.iconst 0, 1) := by decide +kernel
theorem d_Mo_fine_2 : decode prog_8_method_4_code 2 = .ok (.putfield 16, 3) := by decide +kernel
theorem d_Mo_fine_5 : decode prog_8_method_4_code 5 = .ok (.iload_n 1, 1) := by decide +kernel
theorem d_Mo_fine_6 : decode prog_8_method_4_code 6 = .ok (.ireturn, 1) := by decide +kernel
theorem d_Mo_noDomain_0 : decode prog_8_method_5_code 0 = .ok (.iload_n 1, 1) := by decide +kernel
theorem d_Mo_noDomain_1 : decode prog_8_method_5_code 1 = .ok (.ifCond .lt 11, 3) := by decide +kernel
theorem d_Mo_noDomain_4 : decode prog_8_method_5_code 4 = .ok (.iload_n 1, 1) := by decide +kernel
theorem d_Mo_noDomain_5 : decode prog_8_method_5_code 5 = .ok (.aload_n 0, 1) := by decide +kernel
theorem d_Mo_noDomain_6 : decode prog_8_method_5_code 6 = .ok (.getfield 7, 3) := by decide +kernel
theorem d_Mo_noDomain_9 : decode prog_8_method_5_code 9 = .ok (.if_icmp .lt 7, 3) := by decide +kernel
theorem d_Mo_noDomain_12 : decode prog_8_method_5_code 12 = .ok (.iconst 1, 1) := by decide +kernel
theorem d_Mo_noDomain_13 : decode prog_8_method_5_code 13 = .ok (.goto 4, 3) := by decide +kernel
theorem d_Mo_noDomain_16 : decode prog_8_method_5_code 16 = .ok (.iconst 0, 1) := by decide +kernel
theorem d_Mo_noDomain_17 : decode prog_8_method_5_code 17 = .ok (.ireturn, 1) := by decide +kernel
theorem d_Mo_out_0 : decode prog_8_method_6_code 0 = .ok (.iload_n 1, 1) := by decide +kernel
theorem d_Mo_out_1 : decode prog_8_method_6_code 1 = .ok (.ifCond .lt 8, 3) := by decide +kernel
theorem d_Mo_out_4 : decode prog_8_method_6_code 4 = .ok (.iload_n 1, 1) := by decide +kernel
theorem d_Mo_out_5 : decode prog_8_method_6_code 5 = .ok (.iload_n 2, 1) := by decide +kernel
theorem d_Mo_out_6 : decode prog_8_method_6_code 6 = .ok (.if_icmp .lt 7, 3) := by decide +kernel
theorem d_Mo_out_9 : decode prog_8_method_6_code 9 = .ok (.iconst 1, 1) := by decide +kernel
theorem d_Mo_out_10 : decode prog_8_method_6_code 10 = .ok (.goto 4, 3) := by decide +kernel
theorem d_Mo_out_13 : decode prog_8_method_6_code 13 = .ok (.iconst 0, 1) := by decide +kernel
theorem d_Mo_out_14 : decode prog_8_method_6_code 14 = .ok (.ireturn, 1) := by decide +kernel
theorem d_Mo_none_0 : decode prog_8_method_7_code 0 = .ok (.aload_n 0, 1) := by decide +kernel
theorem d_Mo_none_1 : decode prog_8_method_7_code 1 = .ok (.iload_n 2, 1) := by decide +kernel
theorem d_Mo_none_2 : decode prog_8_method_7_code 2 = .ok (.bipush 12, 2) := by decide +kernel
theorem d_Mo_none_4 : decode prog_8_method_7_code 4 = .ok (.invokevirtual 66, 3) := by decide +kernel
theorem d_Mo_none_7 : decode prog_8_method_7_code 7 = .ok (.ifCond .ne 17, 3) := by decide +kernel
theorem d_Mo_none_10 : decode prog_8_method_7_code 10 = .ok (.aload_n 0, 1) := by decide +kernel
theorem d_Mo_none_11 : decode prog_8_method_7_code 11 = .ok (.getfield 23, 3) := by decide +kernel
theorem d_Mo_none_14 : decode prog_8_method_7_code 14 = .ok (.iload_n 1, 1) := by decide +kernel
theorem d_Mo_none_15 : decode prog_8_method_7_code 15 = .ok (.bipush 12, 2) := by decide +kernel
theorem d_Mo_none_17 : decode prog_8_method_7_code 17 = .ok (.imul, 1) := by decide +kernel
theorem d_Mo_none_18 : decode prog_8_method_7_code 18 = .ok (.iload_n 2, 1) := by decide +kernel
theorem d_Mo_none_19 : decode prog_8_method_7_code 19 = .ok (.iadd, 1) := by decide +kernel
theorem d_Mo_none_20 : decode prog_8_method_7_code 20 = .ok (.baload, 1) := by decide +kernel
theorem d_Mo_none_21 : decode prog_8_method_7_code 21 = .ok (.ifCond .ne 7, 3) := by decide +kernel
theorem d_Mo_none_24 : decode prog_8_method_7_code 24 = .ok (.iconst 1, 1) := by decide +kernel
theorem d_Mo_none_25 : decode prog_8_method_7_code 25 = .ok (.goto 4, 3) := by decide +kernel
theorem d_Mo_none_28 : decode prog_8_method_7_code 28 = .ok (.iconst 0, 1) := by decide +kernel
theorem d_Mo_none_29 : decode prog_8_method_7_code 29 = .ok (.ireturn, 1) := by decide +kernel
theorem d_Mo_home_0 : decode prog_8_method_8_code 0 = .ok (.aload_n 0, 1) := by decide +kernel
theorem d_Mo_home_1 : decode prog_8_method_8_code 1 = .ok (.getfield 36, 3) := by decide +kernel
theorem d_Mo_home_4 : decode prog_8_method_8_code 4 = .ok (.iload_n 1, 1) := by decide +kernel
theorem d_Mo_home_5 : decode prog_8_method_8_code 5 = .ok (.iaload, 1) := by decide +kernel
theorem d_Mo_home_6 : decode prog_8_method_8_code 6 = .ok (.bipush 12, 2) := by decide +kernel
theorem d_Mo_home_8 : decode prog_8_method_8_code 8 = .ok (.idiv, 1) := by decide +kernel
theorem d_Mo_home_9 : decode prog_8_method_8_code 9 = .ok (.ireturn, 1) := by decide +kernel
theorem d_Mo_dead_0 : decode prog_8_method_9_code 0 = .ok (.iload_n 1, 1) := by decide +kernel
theorem d_Mo_dead_1 : decode prog_8_method_9_code 1 = .ok (.istore_n 2, 1) := by decide +kernel
theorem d_Mo_dead_2 : decode prog_8_method_9_code 2 = .ok (.iconst 0, 1) := by decide +kernel
theorem d_Mo_dead_3 : decode prog_8_method_9_code 3 = .ok (.istore_n 3, 1) := by decide +kernel
theorem d_Mo_dead_4 : decode prog_8_method_9_code 4 = .ok (.iload_n 3, 1) := by decide +kernel
theorem d_Mo_dead_5 : decode prog_8_method_9_code 5 = .ok (.bipush 41, 2) := by decide +kernel
theorem d_Mo_dead_7 : decode prog_8_method_9_code 7 = .ok (.if_icmp .ge 44, 3) := by decide +kernel
theorem d_Mo_dead_10 : decode prog_8_method_9_code 10 = .ok (.iload_n 2, 1) := by decide +kernel
theorem d_Mo_dead_11 : decode prog_8_method_9_code 11 = .ok (.ifCond .lt 40, 3) := by decide +kernel
theorem d_Mo_dead_14 : decode prog_8_method_9_code 14 = .ok (.aload_n 0, 1) := by decide +kernel
theorem d_Mo_dead_15 : decode prog_8_method_9_code 15 = .ok (.getfield 48, 3) := by decide +kernel
theorem d_Mo_dead_18 : decode prog_8_method_9_code 18 = .ok (.iload_n 2, 1) := by decide +kernel
theorem d_Mo_dead_19 : decode prog_8_method_9_code 19 = .ok (.baload, 1) := by decide +kernel
theorem d_Mo_dead_20 : decode prog_8_method_9_code 20 = .ok (.ifCond .ne 16, 3) := by decide +kernel
theorem d_Mo_dead_23 : decode prog_8_method_9_code 23 = .ok (.aload_n 0, 1) := by decide +kernel
theorem d_Mo_dead_24 : decode prog_8_method_9_code 24 = .ok (.getfield 19, 3) := by decide +kernel
theorem d_Mo_dead_27 : decode prog_8_method_9_code 27 = .ok (.aload_n 0, 1) := by decide +kernel
theorem d_Mo_dead_28 : decode prog_8_method_9_code 28 = .ok (.iload_n 2, 1) := by decide +kernel
theorem d_Mo_dead_29 : decode prog_8_method_9_code 29 = .ok (.invokevirtual 70, 3) := by decide +kernel
theorem d_Mo_dead_32 : decode prog_8_method_9_code 32 = .ok (.baload, 1) := by decide +kernel
theorem d_Mo_dead_33 : decode prog_8_method_9_code 33 = .ok (.ifCond .eq 5, 3) := by decide +kernel
theorem d_Mo_dead_36 : decode prog_8_method_9_code 36 = .ok (.iconst 1, 1) := by decide +kernel
theorem d_Mo_dead_37 : decode prog_8_method_9_code 37 = .ok (.ireturn, 1) := by decide +kernel
theorem d_Mo_dead_38 : decode prog_8_method_9_code 38 = .ok (.aload_n 0, 1) := by decide +kernel
theorem d_Mo_dead_39 : decode prog_8_method_9_code 39 = .ok (.getfield 45, 3) := by decide +kernel
theorem d_Mo_dead_42 : decode prog_8_method_9_code 42 = .ok (.iload_n 2, 1) := by decide +kernel
theorem d_Mo_dead_43 : decode prog_8_method_9_code 43 = .ok (.iaload, 1) := by decide +kernel
theorem d_Mo_dead_44 : decode prog_8_method_9_code 44 = .ok (.istore_n 2, 1) := by decide +kernel
theorem d_Mo_dead_45 : decode prog_8_method_9_code 45 = .ok (.iinc 3 1, 3) := by decide +kernel
theorem d_Mo_dead_48 : decode prog_8_method_9_code 48 = .ok (.goto (-44), 3) := by decide +kernel
theorem d_Mo_dead_51 : decode prog_8_method_9_code 51 = .ok (.iconst 0, 1) := by decide +kernel
theorem d_Mo_dead_52 : decode prog_8_method_9_code 52 = .ok (.ireturn, 1) := by decide +kernel
theorem d_Mo_usedUp_0 : decode prog_8_method_10_code 0 = .ok (.iload_n 1, 1) := by decide +kernel
theorem d_Mo_usedUp_1 : decode prog_8_method_10_code 1 = .ok (.istore_n 2, 1) := by decide +kernel
theorem d_Mo_usedUp_2 : decode prog_8_method_10_code 2 = .ok (.iconst 0, 1) := by decide +kernel
theorem d_Mo_usedUp_3 : decode prog_8_method_10_code 3 = .ok (.istore_n 3, 1) := by decide +kernel
theorem d_Mo_usedUp_4 : decode prog_8_method_10_code 4 = .ok (.iload_n 3, 1) := by decide +kernel
theorem d_Mo_usedUp_5 : decode prog_8_method_10_code 5 = .ok (.bipush 41, 2) := by decide +kernel
theorem d_Mo_usedUp_7 : decode prog_8_method_10_code 7 = .ok (.if_icmp .ge 31, 3) := by decide +kernel
theorem d_Mo_usedUp_10 : decode prog_8_method_10_code 10 = .ok (.iload_n 2, 1) := by decide +kernel
theorem d_Mo_usedUp_11 : decode prog_8_method_10_code 11 = .ok (.ifCond .lt 27, 3) := by decide +kernel
theorem d_Mo_usedUp_14 : decode prog_8_method_10_code 14 = .ok (.aload_n 0, 1) := by decide +kernel
theorem d_Mo_usedUp_15 : decode prog_8_method_10_code 15 = .ok (.getfield 42, 3) := by decide +kernel
theorem d_Mo_usedUp_18 : decode prog_8_method_10_code 18 = .ok (.iload_n 2, 1) := by decide +kernel
theorem d_Mo_usedUp_19 : decode prog_8_method_10_code 19 = .ok (.iaload, 1) := by decide +kernel
theorem d_Mo_usedUp_20 : decode prog_8_method_10_code 20 = .ok (.ifCond .ne 5, 3) := by decide +kernel
theorem d_Mo_usedUp_23 : decode prog_8_method_10_code 23 = .ok (.iconst 1, 1) := by decide +kernel
theorem d_Mo_usedUp_24 : decode prog_8_method_10_code 24 = .ok (.ireturn, 1) := by decide +kernel
theorem d_Mo_usedUp_25 : decode prog_8_method_10_code 25 = .ok (.aload_n 0, 1) := by decide +kernel
theorem d_Mo_usedUp_26 : decode prog_8_method_10_code 26 = .ok (.getfield 45, 3) := by decide +kernel
theorem d_Mo_usedUp_29 : decode prog_8_method_10_code 29 = .ok (.iload_n 2, 1) := by decide +kernel
theorem d_Mo_usedUp_30 : decode prog_8_method_10_code 30 = .ok (.iaload, 1) := by decide +kernel
theorem d_Mo_usedUp_31 : decode prog_8_method_10_code 31 = .ok (.istore_n 2, 1) := by decide +kernel
theorem d_Mo_usedUp_32 : decode prog_8_method_10_code 32 = .ok (.iinc 3 1, 3) := by decide +kernel
theorem d_Mo_usedUp_35 : decode prog_8_method_10_code 35 = .ok (.goto (-31), 3) := by decide +kernel
theorem d_Mo_usedUp_38 : decode prog_8_method_10_code 38 = .ok (.iconst 0, 1) := by decide +kernel
theorem d_Mo_usedUp_39 : decode prog_8_method_10_code 39 = .ok (.ireturn, 1) := by decide +kernel
theorem d_Mo_alive_0 : decode prog_8_method_11_code 0 = .ok (.iconst 0, 1) := by decide +kernel
theorem d_Mo_alive_1 : decode prog_8_method_11_code 1 = .ok (.istore_n 1, 1) := by decide +kernel
theorem d_Mo_alive_2 : decode prog_8_method_11_code 2 = .ok (.iconst 0, 1) := by decide +kernel
theorem d_Mo_alive_3 : decode prog_8_method_11_code 3 = .ok (.istore_n 2, 1) := by decide +kernel
theorem d_Mo_alive_4 : decode prog_8_method_11_code 4 = .ok (.iload_n 2, 1) := by decide +kernel
theorem d_Mo_alive_5 : decode prog_8_method_11_code 5 = .ok (.aload_n 0, 1) := by decide +kernel
theorem d_Mo_alive_6 : decode prog_8_method_11_code 6 = .ok (.getfield 13, 3) := by decide +kernel
theorem d_Mo_alive_9 : decode prog_8_method_11_code 9 = .ok (.if_icmp .ge 20, 3) := by decide +kernel
theorem d_Mo_alive_12 : decode prog_8_method_11_code 12 = .ok (.aload_n 0, 1) := by decide +kernel
theorem d_Mo_alive_13 : decode prog_8_method_11_code 13 = .ok (.iload_n 2, 1) := by decide +kernel
theorem d_Mo_alive_14 : decode prog_8_method_11_code 14 = .ok (.invokevirtual 74, 3) := by decide +kernel
theorem d_Mo_alive_17 : decode prog_8_method_11_code 17 = .ok (.ifCond .ne 6, 3) := by decide +kernel
theorem d_Mo_alive_20 : decode prog_8_method_11_code 20 = .ok (.iinc 1 1, 3) := by decide +kernel
theorem d_Mo_alive_23 : decode prog_8_method_11_code 23 = .ok (.iinc 2 1, 3) := by decide +kernel
theorem d_Mo_alive_26 : decode prog_8_method_11_code 26 = .ok (.goto (-22), 3) := by decide +kernel
theorem d_Mo_alive_29 : decode prog_8_method_11_code 29 = .ok (.iload_n 1, 1) := by decide +kernel
theorem d_Mo_alive_30 : decode prog_8_method_11_code 30 = .ok (.ireturn, 1) := by decide +kernel
theorem d_Mo_useFails_0 : decode prog_8_method_12_code 0 = .ok (.aload_n 0, 1) := by decide +kernel
theorem d_Mo_useFails_1 : decode prog_8_method_12_code 1 = .ok (.iload_n 1, 1) := by decide +kernel
theorem d_Mo_useFails_2 : decode prog_8_method_12_code 2 = .ok (.invokevirtual 78, 3) := by decide +kernel
theorem d_Mo_useFails_5 : decode prog_8_method_12_code 5 = .ok (.ifCond .ne 13, 3) := by decide +kernel
theorem d_Mo_useFails_8 : decode prog_8_method_12_code 8 = .ok (.aload_n 0, 1) := by decide +kernel
theorem d_Mo_useFails_9 : decode prog_8_method_12_code 9 = .ok (.iload_n 2, 1) := by decide +kernel
theorem d_Mo_useFails_10 : decode prog_8_method_12_code 10 = .ok (.bipush 8, 2) := by decide +kernel
theorem d_Mo_useFails_12 : decode prog_8_method_12_code 12 = .ok (.invokevirtual 66, 3) := by decide +kernel
theorem d_Mo_useFails_15 : decode prog_8_method_12_code 15 = .ok (.ifCond .eq 5, 3) := by decide +kernel
theorem d_Mo_useFails_18 : decode prog_8_method_12_code 18 = .ok (.iconst 1, 1) := by decide +kernel
theorem d_Mo_useFails_19 : decode prog_8_method_12_code 19 = .ok (.ireturn, 1) := by decide +kernel
theorem d_Mo_useFails_20 : decode prog_8_method_12_code 20 = .ok (.aload_n 0, 1) := by decide +kernel
theorem d_Mo_useFails_21 : decode prog_8_method_12_code 21 = .ok (.getfield 19, 3) := by decide +kernel
theorem d_Mo_useFails_24 : decode prog_8_method_12_code 24 = .ok (.iload_n 1, 1) := by decide +kernel
theorem d_Mo_useFails_25 : decode prog_8_method_12_code 25 = .ok (.baload, 1) := by decide +kernel
theorem d_Mo_useFails_26 : decode prog_8_method_12_code 26 = .ok (.ifCond .eq 5, 3) := by decide +kernel
theorem d_Mo_useFails_29 : decode prog_8_method_12_code 29 = .ok (.iconst 2, 1) := by decide +kernel
theorem d_Mo_useFails_30 : decode prog_8_method_12_code 30 = .ok (.ireturn, 1) := by decide +kernel
theorem d_Mo_useFails_31 : decode prog_8_method_12_code 31 = .ok (.aload_n 0, 1) := by decide +kernel
theorem d_Mo_useFails_32 : decode prog_8_method_12_code 32 = .ok (.getfield 33, 3) := by decide +kernel
theorem d_Mo_useFails_35 : decode prog_8_method_12_code 35 = .ok (.iload_n 1, 1) := by decide +kernel
theorem d_Mo_useFails_36 : decode prog_8_method_12_code 36 = .ok (.bipush 8, 2) := by decide +kernel
theorem d_Mo_useFails_38 : decode prog_8_method_12_code 38 = .ok (.imul, 1) := by decide +kernel
theorem d_Mo_useFails_39 : decode prog_8_method_12_code 39 = .ok (.iload_n 2, 1) := by decide +kernel
theorem d_Mo_useFails_40 : decode prog_8_method_12_code 40 = .ok (.iadd, 1) := by decide +kernel
theorem d_Mo_useFails_41 : decode prog_8_method_12_code 41 = .ok (.iaload, 1) := by decide +kernel
theorem d_Mo_useFails_42 : decode prog_8_method_12_code 42 = .ok (.istore 4, 2) := by decide +kernel
theorem d_Mo_useFails_44 : decode prog_8_method_12_code 44 = .ok (.iload 4, 2) := by decide +kernel
theorem d_Mo_useFails_46 : decode prog_8_method_12_code 46 = .ok (.ifCond .ge 5, 3) := by decide +kernel
theorem d_Mo_useFails_49 : decode prog_8_method_12_code 49 = .ok (.iconst 3, 1) := by decide +kernel
theorem d_Mo_useFails_50 : decode prog_8_method_12_code 50 = .ok (.ireturn, 1) := by decide +kernel
theorem d_Mo_useFails_51 : decode prog_8_method_12_code 51 = .ok (.aload_n 0, 1) := by decide +kernel
theorem d_Mo_useFails_52 : decode prog_8_method_12_code 52 = .ok (.iload 4, 2) := by decide +kernel
theorem d_Mo_useFails_54 : decode prog_8_method_12_code 54 = .ok (.invokevirtual 74, 3) := by decide +kernel
theorem d_Mo_useFails_57 : decode prog_8_method_12_code 57 = .ok (.ifCond .ne 12, 3) := by decide +kernel
theorem d_Mo_useFails_60 : decode prog_8_method_12_code 60 = .ok (.aload_n 0, 1) := by decide +kernel
theorem d_Mo_useFails_61 : decode prog_8_method_12_code 61 = .ok (.iload 4, 2) := by decide +kernel
theorem d_Mo_useFails_63 : decode prog_8_method_12_code 63 = .ok (.invokevirtual 81, 3) := by decide +kernel
theorem d_Mo_useFails_66 : decode prog_8_method_12_code 66 = .ok (.ifCond .eq 5, 3) := by decide +kernel
theorem d_Mo_useFails_69 : decode prog_8_method_12_code 69 = .ok (.iconst 2, 1) := by decide +kernel
theorem d_Mo_useFails_70 : decode prog_8_method_12_code 70 = .ok (.ireturn, 1) := by decide +kernel
theorem d_Mo_useFails_71 : decode prog_8_method_12_code 71 = .ok (.aload_n 0, 1) := by decide +kernel
theorem d_Mo_useFails_72 : decode prog_8_method_12_code 72 = .ok (.getfield 39, 3) := by decide +kernel
theorem d_Mo_useFails_75 : decode prog_8_method_12_code 75 = .ok (.iload 4, 2) := by decide +kernel
theorem d_Mo_useFails_77 : decode prog_8_method_12_code 77 = .ok (.iaload, 1) := by decide +kernel
theorem d_Mo_useFails_78 : decode prog_8_method_12_code 78 = .ok (.iload_n 3, 1) := by decide +kernel
theorem d_Mo_useFails_79 : decode prog_8_method_12_code 79 = .ok (.iand, 1) := by decide +kernel
theorem d_Mo_useFails_80 : decode prog_8_method_12_code 80 = .ok (.ifCond .ne 7, 3) := by decide +kernel
theorem d_Mo_useFails_83 : decode prog_8_method_12_code 83 = .ok (.iconst 4, 1) := by decide +kernel
theorem d_Mo_useFails_84 : decode prog_8_method_12_code 84 = .ok (.goto 4, 3) := by decide +kernel
theorem d_Mo_useFails_87 : decode prog_8_method_12_code 87 = .ok (.iconst 0, 1) := by decide +kernel
theorem d_Mo_useFails_88 : decode prog_8_method_12_code 88 = .ok (.ireturn, 1) := by decide +kernel
theorem d_Mo_use_0 : decode prog_8_method_13_code 0 = .ok (.iload_n 1, 1) := by decide +kernel
theorem d_Mo_use_1 : decode prog_8_method_13_code 1 = .ok (.istore_n 2, 1) := by decide +kernel
theorem d_Mo_use_2 : decode prog_8_method_13_code 2 = .ok (.iconst 0, 1) := by decide +kernel
theorem d_Mo_use_3 : decode prog_8_method_13_code 3 = .ok (.istore_n 3, 1) := by decide +kernel
theorem d_Mo_use_4 : decode prog_8_method_13_code 4 = .ok (.iload_n 3, 1) := by decide +kernel
theorem d_Mo_use_5 : decode prog_8_method_13_code 5 = .ok (.bipush 41, 2) := by decide +kernel
theorem d_Mo_use_7 : decode prog_8_method_13_code 7 = .ok (.if_icmp .ge 39, 3) := by decide +kernel
theorem d_Mo_use_10 : decode prog_8_method_13_code 10 = .ok (.iload_n 2, 1) := by decide +kernel
theorem d_Mo_use_11 : decode prog_8_method_13_code 11 = .ok (.ifCond .lt 35, 3) := by decide +kernel
theorem d_Mo_use_14 : decode prog_8_method_13_code 14 = .ok (.aload_n 0, 1) := by decide +kernel
theorem d_Mo_use_15 : decode prog_8_method_13_code 15 = .ok (.getfield 42, 3) := by decide +kernel
theorem d_Mo_use_18 : decode prog_8_method_13_code 18 = .ok (.iload_n 2, 1) := by decide +kernel
theorem d_Mo_use_19 : decode prog_8_method_13_code 19 = .ok (.iaload, 1) := by decide +kernel
theorem d_Mo_use_20 : decode prog_8_method_13_code 20 = .ok (.ifCond .le 13, 3) := by decide +kernel
theorem d_Mo_use_23 : decode prog_8_method_13_code 23 = .ok (.aload_n 0, 1) := by decide +kernel
theorem d_Mo_use_24 : decode prog_8_method_13_code 24 = .ok (.getfield 42, 3) := by decide +kernel
theorem d_Mo_use_27 : decode prog_8_method_13_code 27 = .ok (.iload_n 2, 1) := by decide +kernel
theorem d_Mo_use_28 : decode prog_8_method_13_code 28 = .ok (.dup2, 1) := by decide +kernel
theorem d_Mo_use_29 : decode prog_8_method_13_code 29 = .ok (.iaload, 1) := by decide +kernel
theorem d_Mo_use_30 : decode prog_8_method_13_code 30 = .ok (.iconst 1, 1) := by decide +kernel
theorem d_Mo_use_31 : decode prog_8_method_13_code 31 = .ok (.isub, 1) := by decide +kernel
theorem d_Mo_use_32 : decode prog_8_method_13_code 32 = .ok (.iastore, 1) := by decide +kernel
theorem d_Mo_use_33 : decode prog_8_method_13_code 33 = .ok (.aload_n 0, 1) := by decide +kernel
theorem d_Mo_use_34 : decode prog_8_method_13_code 34 = .ok (.getfield 45, 3) := by decide +kernel
theorem d_Mo_use_37 : decode prog_8_method_13_code 37 = .ok (.iload_n 2, 1) := by decide +kernel
theorem d_Mo_use_38 : decode prog_8_method_13_code 38 = .ok (.iaload, 1) := by decide +kernel
theorem d_Mo_use_39 : decode prog_8_method_13_code 39 = .ok (.istore_n 2, 1) := by decide +kernel
theorem d_Mo_use_40 : decode prog_8_method_13_code 40 = .ok (.iinc 3 1, 3) := by decide +kernel
theorem d_Mo_use_43 : decode prog_8_method_13_code 43 = .ok (.goto (-39), 3) := by decide +kernel
theorem d_Mo_use_46 : decode prog_8_method_13_code 46 = .ok (.return_, 1) := by decide +kernel
theorem d_Mo_put_0 : decode prog_8_method_14_code 0 = .ok (.aload_n 0, 1) := by decide +kernel
theorem d_Mo_put_1 : decode prog_8_method_14_code 1 = .ok (.getfield 26, 3) := by decide +kernel
theorem d_Mo_put_4 : decode prog_8_method_14_code 4 = .ok (.iload_n 1, 1) := by decide +kernel
theorem d_Mo_put_5 : decode prog_8_method_14_code 5 = .ok (.iload_n 2, 1) := by decide +kernel
theorem d_Mo_put_6 : decode prog_8_method_14_code 6 = .ok (.iastore, 1) := by decide +kernel
theorem d_Mo_put_7 : decode prog_8_method_14_code 7 = .ok (.aload_n 0, 1) := by decide +kernel
theorem d_Mo_put_8 : decode prog_8_method_14_code 8 = .ok (.getfield 30, 3) := by decide +kernel
theorem d_Mo_put_11 : decode prog_8_method_14_code 11 = .ok (.iload_n 1, 1) := by decide +kernel
theorem d_Mo_put_12 : decode prog_8_method_14_code 12 = .ok (.iload_n 3, 1) := by decide +kernel
theorem d_Mo_put_13 : decode prog_8_method_14_code 13 = .ok (.iastore, 1) := by decide +kernel
theorem d_Mo_put_14 : decode prog_8_method_14_code 14 = .ok (.return_, 1) := by decide +kernel
theorem d_Mo_domain_0 : decode prog_8_method_15_code 0 = .ok (.aload_n 0, 1) := by decide +kernel
theorem d_Mo_domain_1 : decode prog_8_method_15_code 1 = .ok (.getfield 7, 3) := by decide +kernel
theorem d_Mo_domain_4 : decode prog_8_method_15_code 4 = .ok (.bipush 6, 2) := by decide +kernel
theorem d_Mo_domain_6 : decode prog_8_method_15_code 6 = .ok (.if_icmp .ne 9, 3) := by decide +kernel
theorem d_Mo_domain_9 : decode prog_8_method_15_code 9 = .ok (.aload_n 0, 1) := by decide +kernel
theorem d_Mo_domain_10 : decode prog_8_method_15_code 10 = .ok (.iconst 1, 1) := by decide +kernel
theorem d_Mo_domain_11 : decode prog_8_method_15_code 11 = .ok (.invokevirtual 84, 3) := by decide +kernel
theorem d_Mo_domain_14 : decode prog_8_method_15_code 14 = .ok (.ireturn, 1) := by decide +kernel
theorem d_Mo_domain_15 : decode prog_8_method_15_code 15 = .ok (.aload_n 0, 1) := by decide +kernel
theorem d_Mo_domain_16 : decode prog_8_method_15_code 16 = .ok (.dup, 1) := by decide +kernel
theorem d_Mo_domain_17 : decode prog_8_method_15_code 17 = .ok (.getfield 7, 3) := by decide +kernel
theorem d_Mo_domain_20 : decode prog_8_method_15_code 20 = .ok (.iconst 1, 1) := by decide +kernel
theorem d_Mo_domain_21 : decode prog_8_method_15_code 21 = .ok (.iadd, 1) := by decide +kernel
theorem d_Mo_domain_22 : decode prog_8_method_15_code 22 = .ok (.putfield 7, 3) := by decide +kernel
theorem d_Mo_domain_25 : decode prog_8_method_15_code 25 = .ok (.aload_n 0, 1) := by decide +kernel
theorem d_Mo_domain_26 : decode prog_8_method_15_code 26 = .ok (.aload_n 0, 1) := by decide +kernel
theorem d_Mo_domain_27 : decode prog_8_method_15_code 27 = .ok (.getfield 7, 3) := by decide +kernel
theorem d_Mo_domain_30 : decode prog_8_method_15_code 30 = .ok (.iconst 1, 1) := by decide +kernel
theorem d_Mo_domain_31 : decode prog_8_method_15_code 31 = .ok (.isub, 1) := by decide +kernel
theorem d_Mo_domain_32 : decode prog_8_method_15_code 32 = .ok (.invokevirtual 87, 3) := by decide +kernel
theorem d_Mo_domain_35 : decode prog_8_method_15_code 35 = .ok (.ireturn, 1) := by decide +kernel
theorem d_Mo_objects_0 : decode prog_8_method_16_code 0 = .ok (.iconst 0, 1) := by decide +kernel
theorem d_Mo_objects_1 : decode prog_8_method_16_code 1 = .ok (.istore_n 2, 1) := by decide +kernel
theorem d_Mo_objects_2 : decode prog_8_method_16_code 2 = .ok (.iconst 0, 1) := by decide +kernel
theorem d_Mo_objects_3 : decode prog_8_method_16_code 3 = .ok (.istore_n 3, 1) := by decide +kernel
theorem d_Mo_objects_4 : decode prog_8_method_16_code 4 = .ok (.iload_n 3, 1) := by decide +kernel
theorem d_Mo_objects_5 : decode prog_8_method_16_code 5 = .ok (.bipush 12, 2) := by decide +kernel
theorem d_Mo_objects_7 : decode prog_8_method_16_code 7 = .ok (.if_icmp .ge 26, 3) := by decide +kernel
theorem d_Mo_objects_10 : decode prog_8_method_16_code 10 = .ok (.aload_n 0, 1) := by decide +kernel
theorem d_Mo_objects_11 : decode prog_8_method_16_code 11 = .ok (.getfield 23, 3) := by decide +kernel
theorem d_Mo_objects_14 : decode prog_8_method_16_code 14 = .ok (.iload_n 1, 1) := by decide +kernel
theorem d_Mo_objects_15 : decode prog_8_method_16_code 15 = .ok (.bipush 12, 2) := by decide +kernel
theorem d_Mo_objects_17 : decode prog_8_method_16_code 17 = .ok (.imul, 1) := by decide +kernel
theorem d_Mo_objects_18 : decode prog_8_method_16_code 18 = .ok (.iload_n 3, 1) := by decide +kernel
theorem d_Mo_objects_19 : decode prog_8_method_16_code 19 = .ok (.iadd, 1) := by decide +kernel
theorem d_Mo_objects_20 : decode prog_8_method_16_code 20 = .ok (.baload, 1) := by decide +kernel
theorem d_Mo_objects_21 : decode prog_8_method_16_code 21 = .ok (.ifCond .eq 6, 3) := by decide +kernel
theorem d_Mo_objects_24 : decode prog_8_method_16_code 24 = .ok (.iinc 2 1, 3) := by decide +kernel
theorem d_Mo_objects_27 : decode prog_8_method_16_code 27 = .ok (.iinc 3 1, 3) := by decide +kernel
theorem d_Mo_objects_30 : decode prog_8_method_16_code 30 = .ok (.goto (-26), 3) := by decide +kernel
theorem d_Mo_objects_33 : decode prog_8_method_16_code 33 = .ok (.iload_n 2, 1) := by decide +kernel
theorem d_Mo_objects_34 : decode prog_8_method_16_code 34 = .ok (.ireturn, 1) := by decide +kernel
theorem d_Mo_newObject_0 : decode prog_8_method_17_code 0 = .ok (.iconst 0, 1) := by decide +kernel
theorem d_Mo_newObject_1 : decode prog_8_method_17_code 1 = .ok (.istore_n 2, 1) := by decide +kernel
theorem d_Mo_newObject_2 : decode prog_8_method_17_code 2 = .ok (.aload_n 0, 1) := by decide +kernel
theorem d_Mo_newObject_3 : decode prog_8_method_17_code 3 = .ok (.getfield 23, 3) := by decide +kernel
theorem d_Mo_newObject_6 : decode prog_8_method_17_code 6 = .ok (.iload_n 1, 1) := by decide +kernel
theorem d_Mo_newObject_7 : decode prog_8_method_17_code 7 = .ok (.bipush 12, 2) := by decide +kernel
theorem d_Mo_newObject_9 : decode prog_8_method_17_code 9 = .ok (.imul, 1) := by decide +kernel
theorem d_Mo_newObject_10 : decode prog_8_method_17_code 10 = .ok (.iload_n 2, 1) := by decide +kernel
theorem d_Mo_newObject_11 : decode prog_8_method_17_code 11 = .ok (.iadd, 1) := by decide +kernel
theorem d_Mo_newObject_12 : decode prog_8_method_17_code 12 = .ok (.baload, 1) := by decide +kernel
theorem d_Mo_newObject_13 : decode prog_8_method_17_code 13 = .ok (.ifCond .eq 9, 3) := by decide +kernel
theorem d_Mo_newObject_16 : decode prog_8_method_17_code 16 = .ok (.iinc 2 1, 3) := by decide +kernel
theorem d_Mo_newObject_19 : decode prog_8_method_17_code 19 = .ok (.goto (-17), 3) := by decide +kernel
theorem d_Mo_newObject_22 : decode prog_8_method_17_code 22 = .ok (.aload_n 0, 1) := by decide +kernel
theorem d_Mo_newObject_23 : decode prog_8_method_17_code 23 = .ok (.getfield 23, 3) := by decide +kernel
theorem d_Mo_newObject_26 : decode prog_8_method_17_code 26 = .ok (.iload_n 1, 1) := by decide +kernel
theorem d_Mo_newObject_27 : decode prog_8_method_17_code 27 = .ok (.bipush 12, 2) := by decide +kernel
theorem d_Mo_newObject_29 : decode prog_8_method_17_code 29 = .ok (.imul, 1) := by decide +kernel
theorem d_Mo_newObject_30 : decode prog_8_method_17_code 30 = .ok (.iload_n 2, 1) := by decide +kernel
theorem d_Mo_newObject_31 : decode prog_8_method_17_code 31 = .ok (.iadd, 1) := by decide +kernel
theorem d_Mo_newObject_32 : decode prog_8_method_17_code 32 = .ok (.iconst 1, 1) := by decide +kernel
theorem d_Mo_newObject_33 : decode prog_8_method_17_code 33 = .ok (.bastore, 1) := by decide +kernel
theorem d_Mo_newObject_34 : decode prog_8_method_17_code 34 = .ok (.iconst 0, 1) := by decide +kernel
theorem d_Mo_newObject_35 : decode prog_8_method_17_code 35 = .ok (.istore_n 3, 1) := by decide +kernel
theorem d_Mo_newObject_36 : decode prog_8_method_17_code 36 = .ok (.iload_n 3, 1) := by decide +kernel
theorem d_Mo_newObject_37 : decode prog_8_method_17_code 37 = .ok (.iconst 3, 1) := by decide +kernel
theorem d_Mo_newObject_38 : decode prog_8_method_17_code 38 = .ok (.if_icmp .ge 25, 3) := by decide +kernel
theorem d_Mo_newObject_41 : decode prog_8_method_17_code 41 = .ok (.aload_n 0, 1) := by decide +kernel
theorem d_Mo_newObject_42 : decode prog_8_method_17_code 42 = .ok (.iload_n 1, 1) := by decide +kernel
theorem d_Mo_newObject_43 : decode prog_8_method_17_code 43 = .ok (.bipush 12, 2) := by decide +kernel
theorem d_Mo_newObject_45 : decode prog_8_method_17_code 45 = .ok (.imul, 1) := by decide +kernel
theorem d_Mo_newObject_46 : decode prog_8_method_17_code 46 = .ok (.iload_n 2, 1) := by decide +kernel
theorem d_Mo_newObject_47 : decode prog_8_method_17_code 47 = .ok (.iadd, 1) := by decide +kernel
theorem d_Mo_newObject_48 : decode prog_8_method_17_code 48 = .ok (.iconst 3, 1) := by decide +kernel
theorem d_Mo_newObject_49 : decode prog_8_method_17_code 49 = .ok (.imul, 1) := by decide +kernel
theorem d_Mo_newObject_50 : decode prog_8_method_17_code 50 = .ok (.iload_n 3, 1) := by decide +kernel
theorem d_Mo_newObject_51 : decode prog_8_method_17_code 51 = .ok (.iadd, 1) := by decide +kernel
theorem d_Mo_newObject_52 : decode prog_8_method_17_code 52 = .ok (.iconst 0, 1) := by decide +kernel
theorem d_Mo_newObject_53 : decode prog_8_method_17_code 53 = .ok (.iconst 0, 1) := by decide +kernel
theorem d_Mo_newObject_54 : decode prog_8_method_17_code 54 = .ok (.invokevirtual 90, 3) := by decide +kernel
theorem d_Mo_newObject_57 : decode prog_8_method_17_code 57 = .ok (.iinc 3 1, 3) := by decide +kernel
theorem d_Mo_newObject_60 : decode prog_8_method_17_code 60 = .ok (.goto (-24), 3) := by decide +kernel
theorem d_Mo_newObject_63 : decode prog_8_method_17_code 63 = .ok (.iload_n 2, 1) := by decide +kernel
theorem d_Mo_newObject_64 : decode prog_8_method_17_code 64 = .ok (.ireturn, 1) := by decide +kernel
theorem d_Mo_object_0 : decode prog_8_method_18_code 0 = .ok (.aload_n 0, 1) := by decide +kernel
theorem d_Mo_object_1 : decode prog_8_method_18_code 1 = .ok (.iload_n 1, 1) := by decide +kernel
theorem d_Mo_object_2 : decode prog_8_method_18_code 2 = .ok (.invokevirtual 78, 3) := by decide +kernel
theorem d_Mo_object_5 : decode prog_8_method_18_code 5 = .ok (.ifCond .eq 9, 3) := by decide +kernel
theorem d_Mo_object_8 : decode prog_8_method_18_code 8 = .ok (.aload_n 0, 1) := by decide +kernel
theorem d_Mo_object_9 : decode prog_8_method_18_code 9 = .ok (.iconst 1, 1) := by decide +kernel
theorem d_Mo_object_10 : decode prog_8_method_18_code 10 = .ok (.invokevirtual 84, 3) := by decide +kernel
theorem d_Mo_object_13 : decode prog_8_method_18_code 13 = .ok (.ireturn, 1) := by decide +kernel
theorem d_Mo_object_14 : decode prog_8_method_18_code 14 = .ok (.aload_n 0, 1) := by decide +kernel
theorem d_Mo_object_15 : decode prog_8_method_18_code 15 = .ok (.getfield 19, 3) := by decide +kernel
theorem d_Mo_object_18 : decode prog_8_method_18_code 18 = .ok (.iload_n 1, 1) := by decide +kernel
theorem d_Mo_object_19 : decode prog_8_method_18_code 19 = .ok (.baload, 1) := by decide +kernel
theorem d_Mo_object_20 : decode prog_8_method_18_code 20 = .ok (.ifCond .eq 9, 3) := by decide +kernel
theorem d_Mo_object_23 : decode prog_8_method_18_code 23 = .ok (.aload_n 0, 1) := by decide +kernel
theorem d_Mo_object_24 : decode prog_8_method_18_code 24 = .ok (.iconst 2, 1) := by decide +kernel
theorem d_Mo_object_25 : decode prog_8_method_18_code 25 = .ok (.invokevirtual 84, 3) := by decide +kernel
theorem d_Mo_object_28 : decode prog_8_method_18_code 28 = .ok (.ireturn, 1) := by decide +kernel
theorem d_Mo_object_29 : decode prog_8_method_18_code 29 = .ok (.aload_n 0, 1) := by decide +kernel
theorem d_Mo_object_30 : decode prog_8_method_18_code 30 = .ok (.iload_n 1, 1) := by decide +kernel
theorem d_Mo_object_31 : decode prog_8_method_18_code 31 = .ok (.invokevirtual 94, 3) := by decide +kernel
theorem d_Mo_object_34 : decode prog_8_method_18_code 34 = .ok (.bipush 12, 2) := by decide +kernel
theorem d_Mo_object_36 : decode prog_8_method_18_code 36 = .ok (.if_icmp .ne 11, 3) := by decide +kernel
theorem d_Mo_object_39 : decode prog_8_method_18_code 39 = .ok (.aload_n 0, 1) := by decide +kernel
theorem d_Mo_object_40 : decode prog_8_method_18_code 40 = .ok (.iconst 3, 1) := by decide +kernel
theorem d_Mo_object_41 : decode prog_8_method_18_code 41 = .ok (.invokevirtual 84, 3) := by decide +kernel
theorem d_Mo_object_44 : decode prog_8_method_18_code 44 = .ok (.goto 12, 3) := by decide +kernel
theorem d_Mo_object_47 : decode prog_8_method_18_code 47 = .ok (.aload_n 0, 1) := by decide +kernel
theorem d_Mo_object_48 : decode prog_8_method_18_code 48 = .ok (.aload_n 0, 1) := by decide +kernel
theorem d_Mo_object_49 : decode prog_8_method_18_code 49 = .ok (.iload_n 1, 1) := by decide +kernel
theorem d_Mo_object_50 : decode prog_8_method_18_code 50 = .ok (.invokevirtual 97, 3) := by decide +kernel
theorem d_Mo_object_53 : decode prog_8_method_18_code 53 = .ok (.invokevirtual 87, 3) := by decide +kernel
theorem d_Mo_object_56 : decode prog_8_method_18_code 56 = .ok (.ireturn, 1) := by decide +kernel
theorem d_Mo_set_0 : decode prog_8_method_19_code 0 = .ok (.aload_n 0, 1) := by decide +kernel
theorem d_Mo_set_1 : decode prog_8_method_19_code 1 = .ok (.iload_n 1, 1) := by decide +kernel
theorem d_Mo_set_2 : decode prog_8_method_19_code 2 = .ok (.invokevirtual 78, 3) := by decide +kernel
theorem d_Mo_set_5 : decode prog_8_method_19_code 5 = .ok (.ifCond .eq 9, 3) := by decide +kernel
theorem d_Mo_set_8 : decode prog_8_method_19_code 8 = .ok (.aload_n 0, 1) := by decide +kernel
theorem d_Mo_set_9 : decode prog_8_method_19_code 9 = .ok (.iconst 1, 1) := by decide +kernel
theorem d_Mo_set_10 : decode prog_8_method_19_code 10 = .ok (.invokevirtual 84, 3) := by decide +kernel
theorem d_Mo_set_13 : decode prog_8_method_19_code 13 = .ok (.ireturn, 1) := by decide +kernel
theorem d_Mo_set_14 : decode prog_8_method_19_code 14 = .ok (.aload_n 0, 1) := by decide +kernel
theorem d_Mo_set_15 : decode prog_8_method_19_code 15 = .ok (.getfield 19, 3) := by decide +kernel
theorem d_Mo_set_18 : decode prog_8_method_19_code 18 = .ok (.iload_n 1, 1) := by decide +kernel
theorem d_Mo_set_19 : decode prog_8_method_19_code 19 = .ok (.baload, 1) := by decide +kernel
theorem d_Mo_set_20 : decode prog_8_method_19_code 20 = .ok (.ifCond .eq 9, 3) := by decide +kernel
theorem d_Mo_set_23 : decode prog_8_method_19_code 23 = .ok (.aload_n 0, 1) := by decide +kernel
theorem d_Mo_set_24 : decode prog_8_method_19_code 24 = .ok (.iconst 2, 1) := by decide +kernel
theorem d_Mo_set_25 : decode prog_8_method_19_code 25 = .ok (.invokevirtual 84, 3) := by decide +kernel
theorem d_Mo_set_28 : decode prog_8_method_19_code 28 = .ok (.ireturn, 1) := by decide +kernel
theorem d_Mo_set_29 : decode prog_8_method_19_code 29 = .ok (.aload_n 0, 1) := by decide +kernel
theorem d_Mo_set_30 : decode prog_8_method_19_code 30 = .ok (.iload_n 1, 1) := by decide +kernel
theorem d_Mo_set_31 : decode prog_8_method_19_code 31 = .ok (.iload_n 2, 1) := by decide +kernel
theorem d_Mo_set_32 : decode prog_8_method_19_code 32 = .ok (.invokevirtual 100, 3) := by decide +kernel
theorem d_Mo_set_35 : decode prog_8_method_19_code 35 = .ok (.ifCond .eq 9, 3) := by decide +kernel
theorem d_Mo_set_38 : decode prog_8_method_19_code 38 = .ok (.aload_n 0, 1) := by decide +kernel
theorem d_Mo_set_39 : decode prog_8_method_19_code 39 = .ok (.iconst 3, 1) := by decide +kernel
theorem d_Mo_set_40 : decode prog_8_method_19_code 40 = .ok (.invokevirtual 84, 3) := by decide +kernel
theorem d_Mo_set_43 : decode prog_8_method_19_code 43 = .ok (.ireturn, 1) := by decide +kernel
theorem d_Mo_set_44 : decode prog_8_method_19_code 44 = .ok (.aload_n 0, 1) := by decide +kernel
theorem d_Mo_set_45 : decode prog_8_method_19_code 45 = .ok (.iload_n 3, 1) := by decide +kernel
theorem d_Mo_set_46 : decode prog_8_method_19_code 46 = .ok (.iconst 3, 1) := by decide +kernel
theorem d_Mo_set_47 : decode prog_8_method_19_code 47 = .ok (.invokevirtual 66, 3) := by decide +kernel
theorem d_Mo_set_50 : decode prog_8_method_19_code 50 = .ok (.ifCond .eq 9, 3) := by decide +kernel
theorem d_Mo_set_53 : decode prog_8_method_19_code 53 = .ok (.aload_n 0, 1) := by decide +kernel
theorem d_Mo_set_54 : decode prog_8_method_19_code 54 = .ok (.iconst 4, 1) := by decide +kernel
theorem d_Mo_set_55 : decode prog_8_method_19_code 55 = .ok (.invokevirtual 84, 3) := by decide +kernel
theorem d_Mo_set_58 : decode prog_8_method_19_code 58 = .ok (.ireturn, 1) := by decide +kernel
theorem d_Mo_set_59 : decode prog_8_method_19_code 59 = .ok (.iload_n 1, 1) := by decide +kernel
theorem d_Mo_set_60 : decode prog_8_method_19_code 60 = .ok (.bipush 12, 2) := by decide +kernel
theorem d_Mo_set_62 : decode prog_8_method_19_code 62 = .ok (.imul, 1) := by decide +kernel
theorem d_Mo_set_63 : decode prog_8_method_19_code 63 = .ok (.iload_n 2, 1) := by decide +kernel
theorem d_Mo_set_64 : decode prog_8_method_19_code 64 = .ok (.iadd, 1) := by decide +kernel
theorem d_Mo_set_65 : decode prog_8_method_19_code 65 = .ok (.iconst 3, 1) := by decide +kernel
theorem d_Mo_set_66 : decode prog_8_method_19_code 66 = .ok (.imul, 1) := by decide +kernel
theorem d_Mo_set_67 : decode prog_8_method_19_code 67 = .ok (.iload_n 3, 1) := by decide +kernel
theorem d_Mo_set_68 : decode prog_8_method_19_code 68 = .ok (.iadd, 1) := by decide +kernel
theorem d_Mo_set_69 : decode prog_8_method_19_code 69 = .ok (.istore 5, 2) := by decide +kernel
theorem d_Mo_set_71 : decode prog_8_method_19_code 71 = .ok (.aload_n 0, 1) := by decide +kernel
theorem d_Mo_set_72 : decode prog_8_method_19_code 72 = .ok (.getfield 26, 3) := by decide +kernel
theorem d_Mo_set_75 : decode prog_8_method_19_code 75 = .ok (.iload 5, 2) := by decide +kernel
theorem d_Mo_set_77 : decode prog_8_method_19_code 77 = .ok (.iaload, 1) := by decide +kernel
theorem d_Mo_set_78 : decode prog_8_method_19_code 78 = .ok (.ifCond .ne 13, 3) := by decide +kernel
theorem d_Mo_set_81 : decode prog_8_method_19_code 81 = .ok (.aload_n 0, 1) := by decide +kernel
theorem d_Mo_set_82 : decode prog_8_method_19_code 82 = .ok (.getfield 30, 3) := by decide +kernel
theorem d_Mo_set_85 : decode prog_8_method_19_code 85 = .ok (.iload 5, 2) := by decide +kernel
theorem d_Mo_set_87 : decode prog_8_method_19_code 87 = .ok (.iaload, 1) := by decide +kernel
theorem d_Mo_set_88 : decode prog_8_method_19_code 88 = .ok (.goto 4, 3) := by decide +kernel
theorem d_Mo_set_91 : decode prog_8_method_19_code 91 = .ok (.iconst 0, 1) := by decide +kernel
theorem d_Mo_set_92 : decode prog_8_method_19_code 92 = .ok (.istore 6, 2) := by decide +kernel
theorem d_Mo_set_94 : decode prog_8_method_19_code 94 = .ok (.aload_n 0, 1) := by decide +kernel
theorem d_Mo_set_95 : decode prog_8_method_19_code 95 = .ok (.iload 5, 2) := by decide +kernel
theorem d_Mo_set_97 : decode prog_8_method_19_code 97 = .ok (.iconst 0, 1) := by decide +kernel
theorem d_Mo_set_98 : decode prog_8_method_19_code 98 = .ok (.iload 4, 2) := by decide +kernel
theorem d_Mo_set_100 : decode prog_8_method_19_code 100 = .ok (.invokevirtual 90, 3) := by decide +kernel
theorem d_Mo_set_103 : decode prog_8_method_19_code 103 = .ok (.aload_n 0, 1) := by decide +kernel
theorem d_Mo_set_104 : decode prog_8_method_19_code 104 = .ok (.iload 6, 2) := by decide +kernel
theorem d_Mo_set_106 : decode prog_8_method_19_code 106 = .ok (.invokevirtual 87, 3) := by decide +kernel
theorem d_Mo_set_109 : decode prog_8_method_19_code 109 = .ok (.ireturn, 1) := by decide +kernel
theorem d_Mo_link_0 : decode prog_8_method_20_code 0 = .ok (.aload_n 0, 1) := by decide +kernel
theorem d_Mo_link_1 : decode prog_8_method_20_code 1 = .ok (.iload_n 1, 1) := by decide +kernel
theorem d_Mo_link_2 : decode prog_8_method_20_code 2 = .ok (.invokevirtual 78, 3) := by decide +kernel
theorem d_Mo_link_5 : decode prog_8_method_20_code 5 = .ok (.ifCond .eq 9, 3) := by decide +kernel
theorem d_Mo_link_8 : decode prog_8_method_20_code 8 = .ok (.aload_n 0, 1) := by decide +kernel
theorem d_Mo_link_9 : decode prog_8_method_20_code 9 = .ok (.iconst 1, 1) := by decide +kernel
theorem d_Mo_link_10 : decode prog_8_method_20_code 10 = .ok (.invokevirtual 84, 3) := by decide +kernel
theorem d_Mo_link_13 : decode prog_8_method_20_code 13 = .ok (.ireturn, 1) := by decide +kernel
theorem d_Mo_link_14 : decode prog_8_method_20_code 14 = .ok (.aload_n 0, 1) := by decide +kernel
theorem d_Mo_link_15 : decode prog_8_method_20_code 15 = .ok (.getfield 19, 3) := by decide +kernel
theorem d_Mo_link_18 : decode prog_8_method_20_code 18 = .ok (.iload_n 1, 1) := by decide +kernel
theorem d_Mo_link_19 : decode prog_8_method_20_code 19 = .ok (.baload, 1) := by decide +kernel
theorem d_Mo_link_20 : decode prog_8_method_20_code 20 = .ok (.ifCond .eq 9, 3) := by decide +kernel
theorem d_Mo_link_23 : decode prog_8_method_20_code 23 = .ok (.aload_n 0, 1) := by decide +kernel
theorem d_Mo_link_24 : decode prog_8_method_20_code 24 = .ok (.iconst 2, 1) := by decide +kernel
theorem d_Mo_link_25 : decode prog_8_method_20_code 25 = .ok (.invokevirtual 84, 3) := by decide +kernel
theorem d_Mo_link_28 : decode prog_8_method_20_code 28 = .ok (.ireturn, 1) := by decide +kernel
theorem d_Mo_link_29 : decode prog_8_method_20_code 29 = .ok (.aload_n 0, 1) := by decide +kernel
theorem d_Mo_link_30 : decode prog_8_method_20_code 30 = .ok (.iload_n 1, 1) := by decide +kernel
theorem d_Mo_link_31 : decode prog_8_method_20_code 31 = .ok (.iload_n 2, 1) := by decide +kernel
theorem d_Mo_link_32 : decode prog_8_method_20_code 32 = .ok (.invokevirtual 100, 3) := by decide +kernel
theorem d_Mo_link_35 : decode prog_8_method_20_code 35 = .ok (.ifCond .eq 9, 3) := by decide +kernel
theorem d_Mo_link_38 : decode prog_8_method_20_code 38 = .ok (.aload_n 0, 1) := by decide +kernel
theorem d_Mo_link_39 : decode prog_8_method_20_code 39 = .ok (.iconst 3, 1) := by decide +kernel
theorem d_Mo_link_40 : decode prog_8_method_20_code 40 = .ok (.invokevirtual 84, 3) := by decide +kernel
theorem d_Mo_link_43 : decode prog_8_method_20_code 43 = .ok (.ireturn, 1) := by decide +kernel
theorem d_Mo_link_44 : decode prog_8_method_20_code 44 = .ok (.aload_n 0, 1) := by decide +kernel
theorem d_Mo_link_45 : decode prog_8_method_20_code 45 = .ok (.iload_n 3, 1) := by decide +kernel
theorem d_Mo_link_46 : decode prog_8_method_20_code 46 = .ok (.iconst 3, 1) := by decide +kernel
theorem d_Mo_link_47 : decode prog_8_method_20_code 47 = .ok (.invokevirtual 66, 3) := by decide +kernel
theorem d_Mo_link_50 : decode prog_8_method_20_code 50 = .ok (.ifCond .eq 9, 3) := by decide +kernel
theorem d_Mo_link_53 : decode prog_8_method_20_code 53 = .ok (.aload_n 0, 1) := by decide +kernel
theorem d_Mo_link_54 : decode prog_8_method_20_code 54 = .ok (.iconst 4, 1) := by decide +kernel
theorem d_Mo_link_55 : decode prog_8_method_20_code 55 = .ok (.invokevirtual 84, 3) := by decide +kernel
theorem d_Mo_link_58 : decode prog_8_method_20_code 58 = .ok (.ireturn, 1) := by decide +kernel
theorem d_Mo_link_59 : decode prog_8_method_20_code 59 = .ok (.aload_n 0, 1) := by decide +kernel
theorem d_Mo_link_60 : decode prog_8_method_20_code 60 = .ok (.iload_n 1, 1) := by decide +kernel
theorem d_Mo_link_61 : decode prog_8_method_20_code 61 = .ok (.iload 4, 2) := by decide +kernel
theorem d_Mo_link_63 : decode prog_8_method_20_code 63 = .ok (.invokevirtual 100, 3) := by decide +kernel
theorem d_Mo_link_66 : decode prog_8_method_20_code 66 = .ok (.ifCond .eq 9, 3) := by decide +kernel
theorem d_Mo_link_69 : decode prog_8_method_20_code 69 = .ok (.aload_n 0, 1) := by decide +kernel
theorem d_Mo_link_70 : decode prog_8_method_20_code 70 = .ok (.iconst 3, 1) := by decide +kernel
theorem d_Mo_link_71 : decode prog_8_method_20_code 71 = .ok (.invokevirtual 84, 3) := by decide +kernel
theorem d_Mo_link_74 : decode prog_8_method_20_code 74 = .ok (.ireturn, 1) := by decide +kernel
theorem d_Mo_link_75 : decode prog_8_method_20_code 75 = .ok (.aload_n 0, 1) := by decide +kernel
theorem d_Mo_link_76 : decode prog_8_method_20_code 76 = .ok (.iload_n 1, 1) := by decide +kernel
theorem d_Mo_link_77 : decode prog_8_method_20_code 77 = .ok (.bipush 12, 2) := by decide +kernel
theorem d_Mo_link_79 : decode prog_8_method_20_code 79 = .ok (.imul, 1) := by decide +kernel
theorem d_Mo_link_80 : decode prog_8_method_20_code 80 = .ok (.iload_n 2, 1) := by decide +kernel
theorem d_Mo_link_81 : decode prog_8_method_20_code 81 = .ok (.iadd, 1) := by decide +kernel
theorem d_Mo_link_82 : decode prog_8_method_20_code 82 = .ok (.iconst 3, 1) := by decide +kernel
theorem d_Mo_link_83 : decode prog_8_method_20_code 83 = .ok (.imul, 1) := by decide +kernel
theorem d_Mo_link_84 : decode prog_8_method_20_code 84 = .ok (.iload_n 3, 1) := by decide +kernel
theorem d_Mo_link_85 : decode prog_8_method_20_code 85 = .ok (.iadd, 1) := by decide +kernel
theorem d_Mo_link_86 : decode prog_8_method_20_code 86 = .ok (.iconst 1, 1) := by decide +kernel
theorem d_Mo_link_87 : decode prog_8_method_20_code 87 = .ok (.iload 4, 2) := by decide +kernel
theorem d_Mo_link_89 : decode prog_8_method_20_code 89 = .ok (.invokevirtual 90, 3) := by decide +kernel
theorem d_Mo_link_92 : decode prog_8_method_20_code 92 = .ok (.aload_n 0, 1) := by decide +kernel
theorem d_Mo_link_93 : decode prog_8_method_20_code 93 = .ok (.iconst 0, 1) := by decide +kernel
theorem d_Mo_link_94 : decode prog_8_method_20_code 94 = .ok (.invokevirtual 87, 3) := by decide +kernel
theorem d_Mo_link_97 : decode prog_8_method_20_code 97 = .ok (.ireturn, 1) := by decide +kernel
theorem d_Mo_hold_0 : decode prog_8_method_21_code 0 = .ok (.aload_n 0, 1) := by decide +kernel
theorem d_Mo_hold_1 : decode prog_8_method_21_code 1 = .ok (.iload_n 1, 1) := by decide +kernel
theorem d_Mo_hold_2 : decode prog_8_method_21_code 2 = .ok (.invokevirtual 78, 3) := by decide +kernel
theorem d_Mo_hold_5 : decode prog_8_method_21_code 5 = .ok (.ifCond .eq 9, 3) := by decide +kernel
theorem d_Mo_hold_8 : decode prog_8_method_21_code 8 = .ok (.aload_n 0, 1) := by decide +kernel
theorem d_Mo_hold_9 : decode prog_8_method_21_code 9 = .ok (.iconst 1, 1) := by decide +kernel
theorem d_Mo_hold_10 : decode prog_8_method_21_code 10 = .ok (.invokevirtual 84, 3) := by decide +kernel
theorem d_Mo_hold_13 : decode prog_8_method_21_code 13 = .ok (.ireturn, 1) := by decide +kernel
theorem d_Mo_hold_14 : decode prog_8_method_21_code 14 = .ok (.aload_n 0, 1) := by decide +kernel
theorem d_Mo_hold_15 : decode prog_8_method_21_code 15 = .ok (.getfield 19, 3) := by decide +kernel
theorem d_Mo_hold_18 : decode prog_8_method_21_code 18 = .ok (.iload_n 1, 1) := by decide +kernel
theorem d_Mo_hold_19 : decode prog_8_method_21_code 19 = .ok (.baload, 1) := by decide +kernel
theorem d_Mo_hold_20 : decode prog_8_method_21_code 20 = .ok (.ifCond .eq 9, 3) := by decide +kernel
theorem d_Mo_hold_23 : decode prog_8_method_21_code 23 = .ok (.aload_n 0, 1) := by decide +kernel
theorem d_Mo_hold_24 : decode prog_8_method_21_code 24 = .ok (.iconst 2, 1) := by decide +kernel
theorem d_Mo_hold_25 : decode prog_8_method_21_code 25 = .ok (.invokevirtual 84, 3) := by decide +kernel
theorem d_Mo_hold_28 : decode prog_8_method_21_code 28 = .ok (.ireturn, 1) := by decide +kernel
theorem d_Mo_hold_29 : decode prog_8_method_21_code 29 = .ok (.aload_n 0, 1) := by decide +kernel
theorem d_Mo_hold_30 : decode prog_8_method_21_code 30 = .ok (.iload_n 1, 1) := by decide +kernel
theorem d_Mo_hold_31 : decode prog_8_method_21_code 31 = .ok (.iload_n 2, 1) := by decide +kernel
theorem d_Mo_hold_32 : decode prog_8_method_21_code 32 = .ok (.invokevirtual 100, 3) := by decide +kernel
theorem d_Mo_hold_35 : decode prog_8_method_21_code 35 = .ok (.ifCond .eq 9, 3) := by decide +kernel
theorem d_Mo_hold_38 : decode prog_8_method_21_code 38 = .ok (.aload_n 0, 1) := by decide +kernel
theorem d_Mo_hold_39 : decode prog_8_method_21_code 39 = .ok (.iconst 3, 1) := by decide +kernel
theorem d_Mo_hold_40 : decode prog_8_method_21_code 40 = .ok (.invokevirtual 84, 3) := by decide +kernel
theorem d_Mo_hold_43 : decode prog_8_method_21_code 43 = .ok (.ireturn, 1) := by decide +kernel
theorem d_Mo_hold_44 : decode prog_8_method_21_code 44 = .ok (.aload_n 0, 1) := by decide +kernel
theorem d_Mo_hold_45 : decode prog_8_method_21_code 45 = .ok (.iload_n 3, 1) := by decide +kernel
theorem d_Mo_hold_46 : decode prog_8_method_21_code 46 = .ok (.iconst 3, 1) := by decide +kernel
theorem d_Mo_hold_47 : decode prog_8_method_21_code 47 = .ok (.invokevirtual 66, 3) := by decide +kernel
theorem d_Mo_hold_50 : decode prog_8_method_21_code 50 = .ok (.ifCond .ne 14, 3) := by decide +kernel
theorem d_Mo_hold_53 : decode prog_8_method_21_code 53 = .ok (.aload_n 0, 1) := by decide +kernel
theorem d_Mo_hold_54 : decode prog_8_method_21_code 54 = .ok (.iload 4, 2) := by decide +kernel
theorem d_Mo_hold_56 : decode prog_8_method_21_code 56 = .ok (.bipush 8, 2) := by decide +kernel
theorem d_Mo_hold_58 : decode prog_8_method_21_code 58 = .ok (.invokevirtual 66, 3) := by decide +kernel
theorem d_Mo_hold_61 : decode prog_8_method_21_code 61 = .ok (.ifCond .eq 9, 3) := by decide +kernel
theorem d_Mo_hold_64 : decode prog_8_method_21_code 64 = .ok (.aload_n 0, 1) := by decide +kernel
theorem d_Mo_hold_65 : decode prog_8_method_21_code 65 = .ok (.iconst 4, 1) := by decide +kernel
theorem d_Mo_hold_66 : decode prog_8_method_21_code 66 = .ok (.invokevirtual 84, 3) := by decide +kernel
theorem d_Mo_hold_69 : decode prog_8_method_21_code 69 = .ok (.ireturn, 1) := by decide +kernel
theorem d_Mo_hold_70 : decode prog_8_method_21_code 70 = .ok (.aload_n 0, 1) := by decide +kernel
theorem d_Mo_hold_71 : decode prog_8_method_21_code 71 = .ok (.getfield 33, 3) := by decide +kernel
theorem d_Mo_hold_74 : decode prog_8_method_21_code 74 = .ok (.iload_n 1, 1) := by decide +kernel
theorem d_Mo_hold_75 : decode prog_8_method_21_code 75 = .ok (.bipush 8, 2) := by decide +kernel
theorem d_Mo_hold_77 : decode prog_8_method_21_code 77 = .ok (.imul, 1) := by decide +kernel
theorem d_Mo_hold_78 : decode prog_8_method_21_code 78 = .ok (.iload 4, 2) := by decide +kernel
theorem d_Mo_hold_80 : decode prog_8_method_21_code 80 = .ok (.iadd, 1) := by decide +kernel
theorem d_Mo_hold_81 : decode prog_8_method_21_code 81 = .ok (.iaload, 1) := by decide +kernel
theorem d_Mo_hold_82 : decode prog_8_method_21_code 82 = .ok (.ifCond .ge 9, 3) := by decide +kernel
theorem d_Mo_hold_85 : decode prog_8_method_21_code 85 = .ok (.aload_n 0, 1) := by decide +kernel
theorem d_Mo_hold_86 : decode prog_8_method_21_code 86 = .ok (.iconst 3, 1) := by decide +kernel
theorem d_Mo_hold_87 : decode prog_8_method_21_code 87 = .ok (.invokevirtual 84, 3) := by decide +kernel
theorem d_Mo_hold_90 : decode prog_8_method_21_code 90 = .ok (.ireturn, 1) := by decide +kernel
theorem d_Mo_hold_91 : decode prog_8_method_21_code 91 = .ok (.aload_n 0, 1) := by decide +kernel
theorem d_Mo_hold_92 : decode prog_8_method_21_code 92 = .ok (.iload_n 1, 1) := by decide +kernel
theorem d_Mo_hold_93 : decode prog_8_method_21_code 93 = .ok (.bipush 12, 2) := by decide +kernel
theorem d_Mo_hold_95 : decode prog_8_method_21_code 95 = .ok (.imul, 1) := by decide +kernel
theorem d_Mo_hold_96 : decode prog_8_method_21_code 96 = .ok (.iload_n 2, 1) := by decide +kernel
theorem d_Mo_hold_97 : decode prog_8_method_21_code 97 = .ok (.iadd, 1) := by decide +kernel
theorem d_Mo_hold_98 : decode prog_8_method_21_code 98 = .ok (.iconst 3, 1) := by decide +kernel
theorem d_Mo_hold_99 : decode prog_8_method_21_code 99 = .ok (.imul, 1) := by decide +kernel
theorem d_Mo_hold_100 : decode prog_8_method_21_code 100 = .ok (.iload_n 3, 1) := by decide +kernel
theorem d_Mo_hold_101 : decode prog_8_method_21_code 101 = .ok (.iadd, 1) := by decide +kernel
theorem d_Mo_hold_102 : decode prog_8_method_21_code 102 = .ok (.iconst 2, 1) := by decide +kernel
theorem d_Mo_hold_103 : decode prog_8_method_21_code 103 = .ok (.aload_n 0, 1) := by decide +kernel
theorem d_Mo_hold_104 : decode prog_8_method_21_code 104 = .ok (.getfield 33, 3) := by decide +kernel
theorem d_Mo_hold_107 : decode prog_8_method_21_code 107 = .ok (.iload_n 1, 1) := by decide +kernel
theorem d_Mo_hold_108 : decode prog_8_method_21_code 108 = .ok (.bipush 8, 2) := by decide +kernel
theorem d_Mo_hold_110 : decode prog_8_method_21_code 110 = .ok (.imul, 1) := by decide +kernel
theorem d_Mo_hold_111 : decode prog_8_method_21_code 111 = .ok (.iload 4, 2) := by decide +kernel
theorem d_Mo_hold_113 : decode prog_8_method_21_code 113 = .ok (.iadd, 1) := by decide +kernel
theorem d_Mo_hold_114 : decode prog_8_method_21_code 114 = .ok (.iaload, 1) := by decide +kernel
theorem d_Mo_hold_115 : decode prog_8_method_21_code 115 = .ok (.invokevirtual 90, 3) := by decide +kernel
theorem d_Mo_hold_118 : decode prog_8_method_21_code 118 = .ok (.aload_n 0, 1) := by decide +kernel
theorem d_Mo_hold_119 : decode prog_8_method_21_code 119 = .ok (.iconst 0, 1) := by decide +kernel
theorem d_Mo_hold_120 : decode prog_8_method_21_code 120 = .ok (.invokevirtual 87, 3) := by decide +kernel
theorem d_Mo_hold_123 : decode prog_8_method_21_code 123 = .ok (.ireturn, 1) := by decide +kernel
theorem d_Mo_capability_0 : decode prog_8_method_22_code 0 = .ok (.aload_n 0, 1) := by decide +kernel
theorem d_Mo_capability_1 : decode prog_8_method_22_code 1 = .ok (.getfield 36, 3) := by decide +kernel
theorem d_Mo_capability_4 : decode prog_8_method_22_code 4 = .ok (.aload_n 0, 1) := by decide +kernel
theorem d_Mo_capability_5 : decode prog_8_method_22_code 5 = .ok (.getfield 13, 3) := by decide +kernel
theorem d_Mo_capability_8 : decode prog_8_method_22_code 8 = .ok (.iload_n 1, 1) := by decide +kernel
theorem d_Mo_capability_9 : decode prog_8_method_22_code 9 = .ok (.iastore, 1) := by decide +kernel
theorem d_Mo_capability_10 : decode prog_8_method_22_code 10 = .ok (.aload_n 0, 1) := by decide +kernel
theorem d_Mo_capability_11 : decode prog_8_method_22_code 11 = .ok (.getfield 39, 3) := by decide +kernel
theorem d_Mo_capability_14 : decode prog_8_method_22_code 14 = .ok (.aload_n 0, 1) := by decide +kernel
theorem d_Mo_capability_15 : decode prog_8_method_22_code 15 = .ok (.getfield 13, 3) := by decide +kernel
theorem d_Mo_capability_18 : decode prog_8_method_22_code 18 = .ok (.iload_n 2, 1) := by decide +kernel
theorem d_Mo_capability_19 : decode prog_8_method_22_code 19 = .ok (.iastore, 1) := by decide +kernel
theorem d_Mo_capability_20 : decode prog_8_method_22_code 20 = .ok (.aload_n 0, 1) := by decide +kernel
theorem d_Mo_capability_21 : decode prog_8_method_22_code 21 = .ok (.getfield 42, 3) := by decide +kernel
theorem d_Mo_capability_24 : decode prog_8_method_22_code 24 = .ok (.aload_n 0, 1) := by decide +kernel
theorem d_Mo_capability_25 : decode prog_8_method_22_code 25 = .ok (.getfield 13, 3) := by decide +kernel
theorem d_Mo_capability_28 : decode prog_8_method_22_code 28 = .ok (.iload_n 3, 1) := by decide +kernel
theorem d_Mo_capability_29 : decode prog_8_method_22_code 29 = .ok (.iastore, 1) := by decide +kernel
theorem d_Mo_capability_30 : decode prog_8_method_22_code 30 = .ok (.aload_n 0, 1) := by decide +kernel
theorem d_Mo_capability_31 : decode prog_8_method_22_code 31 = .ok (.getfield 45, 3) := by decide +kernel
theorem d_Mo_capability_34 : decode prog_8_method_22_code 34 = .ok (.aload_n 0, 1) := by decide +kernel
theorem d_Mo_capability_35 : decode prog_8_method_22_code 35 = .ok (.getfield 13, 3) := by decide +kernel
theorem d_Mo_capability_38 : decode prog_8_method_22_code 38 = .ok (.iload 4, 2) := by decide +kernel
theorem d_Mo_capability_40 : decode prog_8_method_22_code 40 = .ok (.iastore, 1) := by decide +kernel
theorem d_Mo_capability_41 : decode prog_8_method_22_code 41 = .ok (.aload_n 0, 1) := by decide +kernel
theorem d_Mo_capability_42 : decode prog_8_method_22_code 42 = .ok (.dup, 1) := by decide +kernel
theorem d_Mo_capability_43 : decode prog_8_method_22_code 43 = .ok (.getfield 13, 3) := by decide +kernel
theorem d_Mo_capability_46 : decode prog_8_method_22_code 46 = .ok (.iconst 1, 1) := by decide +kernel
theorem d_Mo_capability_47 : decode prog_8_method_22_code 47 = .ok (.iadd, 1) := by decide +kernel
theorem d_Mo_capability_48 : decode prog_8_method_22_code 48 = .ok (.putfield 13, 3) := by decide +kernel
theorem d_Mo_capability_51 : decode prog_8_method_22_code 51 = .ok (.aload_n 0, 1) := by decide +kernel
theorem d_Mo_capability_52 : decode prog_8_method_22_code 52 = .ok (.getfield 13, 3) := by decide +kernel
theorem d_Mo_capability_55 : decode prog_8_method_22_code 55 = .ok (.iconst 1, 1) := by decide +kernel
theorem d_Mo_capability_56 : decode prog_8_method_22_code 56 = .ok (.isub, 1) := by decide +kernel
theorem d_Mo_capability_57 : decode prog_8_method_22_code 57 = .ok (.ireturn, 1) := by decide +kernel
theorem d_Mo_export_0 : decode prog_8_method_23_code 0 = .ok (.aload_n 0, 1) := by decide +kernel
theorem d_Mo_export_1 : decode prog_8_method_23_code 1 = .ok (.iload_n 1, 1) := by decide +kernel
theorem d_Mo_export_2 : decode prog_8_method_23_code 2 = .ok (.invokevirtual 78, 3) := by decide +kernel
theorem d_Mo_export_5 : decode prog_8_method_23_code 5 = .ok (.ifCond .ne 30, 3) := by decide +kernel
theorem d_Mo_export_8 : decode prog_8_method_23_code 8 = .ok (.aload_n 0, 1) := by decide +kernel
theorem d_Mo_export_9 : decode prog_8_method_23_code 9 = .ok (.iload_n 3, 1) := by decide +kernel
theorem d_Mo_export_10 : decode prog_8_method_23_code 10 = .ok (.bipush 8, 2) := by decide +kernel
theorem d_Mo_export_12 : decode prog_8_method_23_code 12 = .ok (.invokevirtual 66, 3) := by decide +kernel
theorem d_Mo_export_15 : decode prog_8_method_23_code 15 = .ok (.ifCond .ne 20, 3) := by decide +kernel
theorem d_Mo_export_18 : decode prog_8_method_23_code 18 = .ok (.aload_n 0, 1) := by decide +kernel
theorem d_Mo_export_19 : decode prog_8_method_23_code 19 = .ok (.iload 4, 2) := by decide +kernel
theorem d_Mo_export_21 : decode prog_8_method_23_code 21 = .ok (.bipush 32, 2) := by decide +kernel
theorem d_Mo_export_23 : decode prog_8_method_23_code 23 = .ok (.invokevirtual 66, 3) := by decide +kernel
theorem d_Mo_export_26 : decode prog_8_method_23_code 26 = .ok (.ifCond .ne 9, 3) := by decide +kernel
theorem d_Mo_export_29 : decode prog_8_method_23_code 29 = .ok (.iload 5, 2) := by decide +kernel
theorem d_Mo_export_31 : decode prog_8_method_23_code 31 = .ok (.iconst (-1), 1) := by decide +kernel
theorem d_Mo_export_32 : decode prog_8_method_23_code 32 = .ok (.if_icmp .ge 9, 3) := by decide +kernel
theorem d_Mo_export_35 : decode prog_8_method_23_code 35 = .ok (.aload_n 0, 1) := by decide +kernel
theorem d_Mo_export_36 : decode prog_8_method_23_code 36 = .ok (.iconst 1, 1) := by decide +kernel
theorem d_Mo_export_37 : decode prog_8_method_23_code 37 = .ok (.invokevirtual 84, 3) := by decide +kernel
theorem d_Mo_export_40 : decode prog_8_method_23_code 40 = .ok (.ireturn, 1) := by decide +kernel
theorem d_Mo_export_41 : decode prog_8_method_23_code 41 = .ok (.aload_n 0, 1) := by decide +kernel
theorem d_Mo_export_42 : decode prog_8_method_23_code 42 = .ok (.getfield 19, 3) := by decide +kernel
theorem d_Mo_export_45 : decode prog_8_method_23_code 45 = .ok (.iload_n 1, 1) := by decide +kernel
theorem d_Mo_export_46 : decode prog_8_method_23_code 46 = .ok (.baload, 1) := by decide +kernel
theorem d_Mo_export_47 : decode prog_8_method_23_code 47 = .ok (.ifCond .eq 9, 3) := by decide +kernel
theorem d_Mo_export_50 : decode prog_8_method_23_code 50 = .ok (.aload_n 0, 1) := by decide +kernel
theorem d_Mo_export_51 : decode prog_8_method_23_code 51 = .ok (.iconst 2, 1) := by decide +kernel
theorem d_Mo_export_52 : decode prog_8_method_23_code 52 = .ok (.invokevirtual 84, 3) := by decide +kernel
theorem d_Mo_export_55 : decode prog_8_method_23_code 55 = .ok (.ireturn, 1) := by decide +kernel
theorem d_Mo_export_56 : decode prog_8_method_23_code 56 = .ok (.aload_n 0, 1) := by decide +kernel
theorem d_Mo_export_57 : decode prog_8_method_23_code 57 = .ok (.iload_n 1, 1) := by decide +kernel
theorem d_Mo_export_58 : decode prog_8_method_23_code 58 = .ok (.iload_n 2, 1) := by decide +kernel
theorem d_Mo_export_59 : decode prog_8_method_23_code 59 = .ok (.invokevirtual 100, 3) := by decide +kernel
theorem d_Mo_export_62 : decode prog_8_method_23_code 62 = .ok (.ifCond .eq 9, 3) := by decide +kernel
theorem d_Mo_export_65 : decode prog_8_method_23_code 65 = .ok (.aload_n 0, 1) := by decide +kernel
theorem d_Mo_export_66 : decode prog_8_method_23_code 66 = .ok (.iconst 3, 1) := by decide +kernel
theorem d_Mo_export_67 : decode prog_8_method_23_code 67 = .ok (.invokevirtual 84, 3) := by decide +kernel
theorem d_Mo_export_70 : decode prog_8_method_23_code 70 = .ok (.ireturn, 1) := by decide +kernel
theorem d_Mo_export_71 : decode prog_8_method_23_code 71 = .ok (.aload_n 0, 1) := by decide +kernel
theorem d_Mo_export_72 : decode prog_8_method_23_code 72 = .ok (.getfield 13, 3) := by decide +kernel
theorem d_Mo_export_75 : decode prog_8_method_23_code 75 = .ok (.bipush 40, 2) := by decide +kernel
theorem d_Mo_export_77 : decode prog_8_method_23_code 77 = .ok (.if_icmp .ne 9, 3) := by decide +kernel
theorem d_Mo_export_80 : decode prog_8_method_23_code 80 = .ok (.aload_n 0, 1) := by decide +kernel
theorem d_Mo_export_81 : decode prog_8_method_23_code 81 = .ok (.iconst 4, 1) := by decide +kernel
theorem d_Mo_export_82 : decode prog_8_method_23_code 82 = .ok (.invokevirtual 84, 3) := by decide +kernel
theorem d_Mo_export_85 : decode prog_8_method_23_code 85 = .ok (.ireturn, 1) := by decide +kernel
theorem d_Mo_export_86 : decode prog_8_method_23_code 86 = .ok (.aload_n 0, 1) := by decide +kernel
theorem d_Mo_export_87 : decode prog_8_method_23_code 87 = .ok (.getfield 33, 3) := by decide +kernel
theorem d_Mo_export_90 : decode prog_8_method_23_code 90 = .ok (.iload_n 1, 1) := by decide +kernel
theorem d_Mo_export_91 : decode prog_8_method_23_code 91 = .ok (.bipush 8, 2) := by decide +kernel
theorem d_Mo_export_93 : decode prog_8_method_23_code 93 = .ok (.imul, 1) := by decide +kernel
theorem d_Mo_export_94 : decode prog_8_method_23_code 94 = .ok (.iload_n 3, 1) := by decide +kernel
theorem d_Mo_export_95 : decode prog_8_method_23_code 95 = .ok (.iadd, 1) := by decide +kernel
theorem d_Mo_export_96 : decode prog_8_method_23_code 96 = .ok (.aload_n 0, 1) := by decide +kernel
theorem d_Mo_export_97 : decode prog_8_method_23_code 97 = .ok (.iload_n 1, 1) := by decide +kernel
theorem d_Mo_export_98 : decode prog_8_method_23_code 98 = .ok (.bipush 12, 2) := by decide +kernel
theorem d_Mo_export_100 : decode prog_8_method_23_code 100 = .ok (.imul, 1) := by decide +kernel
theorem d_Mo_export_101 : decode prog_8_method_23_code 101 = .ok (.iload_n 2, 1) := by decide +kernel
theorem d_Mo_export_102 : decode prog_8_method_23_code 102 = .ok (.iadd, 1) := by decide +kernel
theorem d_Mo_export_103 : decode prog_8_method_23_code 103 = .ok (.iload 4, 2) := by decide +kernel
theorem d_Mo_export_105 : decode prog_8_method_23_code 105 = .ok (.iload 5, 2) := by decide +kernel
theorem d_Mo_export_107 : decode prog_8_method_23_code 107 = .ok (.iconst (-1), 1) := by decide +kernel
theorem d_Mo_export_108 : decode prog_8_method_23_code 108 = .ok (.invokevirtual 103, 3) := by decide +kernel
theorem d_Mo_export_111 : decode prog_8_method_23_code 111 = .ok (.iastore, 1) := by decide +kernel
theorem d_Mo_export_112 : decode prog_8_method_23_code 112 = .ok (.aload_n 0, 1) := by decide +kernel
theorem d_Mo_export_113 : decode prog_8_method_23_code 113 = .ok (.aload_n 0, 1) := by decide +kernel
theorem d_Mo_export_114 : decode prog_8_method_23_code 114 = .ok (.getfield 13, 3) := by decide +kernel
theorem d_Mo_export_117 : decode prog_8_method_23_code 117 = .ok (.invokevirtual 87, 3) := by decide +kernel
theorem d_Mo_export_120 : decode prog_8_method_23_code 120 = .ok (.ireturn, 1) := by decide +kernel
theorem d_Mo_narrow_0 : decode prog_8_method_24_code 0 = .ok (.aload_n 0, 1) := by decide +kernel
theorem d_Mo_narrow_1 : decode prog_8_method_24_code 1 = .ok (.iload_n 1, 1) := by decide +kernel
theorem d_Mo_narrow_2 : decode prog_8_method_24_code 2 = .ok (.invokevirtual 78, 3) := by decide +kernel
theorem d_Mo_narrow_5 : decode prog_8_method_24_code 5 = .ok (.ifCond .ne 29, 3) := by decide +kernel
theorem d_Mo_narrow_8 : decode prog_8_method_24_code 8 = .ok (.aload_n 0, 1) := by decide +kernel
theorem d_Mo_narrow_9 : decode prog_8_method_24_code 9 = .ok (.iload_n 2, 1) := by decide +kernel
theorem d_Mo_narrow_10 : decode prog_8_method_24_code 10 = .ok (.bipush 8, 2) := by decide +kernel
theorem d_Mo_narrow_12 : decode prog_8_method_24_code 12 = .ok (.invokevirtual 66, 3) := by decide +kernel
theorem d_Mo_narrow_15 : decode prog_8_method_24_code 15 = .ok (.ifCond .ne 19, 3) := by decide +kernel
theorem d_Mo_narrow_18 : decode prog_8_method_24_code 18 = .ok (.aload_n 0, 1) := by decide +kernel
theorem d_Mo_narrow_19 : decode prog_8_method_24_code 19 = .ok (.iload_n 3, 1) := by decide +kernel
theorem d_Mo_narrow_20 : decode prog_8_method_24_code 20 = .ok (.bipush 32, 2) := by decide +kernel
theorem d_Mo_narrow_22 : decode prog_8_method_24_code 22 = .ok (.invokevirtual 66, 3) := by decide +kernel
theorem d_Mo_narrow_25 : decode prog_8_method_24_code 25 = .ok (.ifCond .ne 9, 3) := by decide +kernel
theorem d_Mo_narrow_28 : decode prog_8_method_24_code 28 = .ok (.iload 4, 2) := by decide +kernel
theorem d_Mo_narrow_30 : decode prog_8_method_24_code 30 = .ok (.iconst (-1), 1) := by decide +kernel
theorem d_Mo_narrow_31 : decode prog_8_method_24_code 31 = .ok (.if_icmp .ge 9, 3) := by decide +kernel
theorem d_Mo_narrow_34 : decode prog_8_method_24_code 34 = .ok (.aload_n 0, 1) := by decide +kernel
theorem d_Mo_narrow_35 : decode prog_8_method_24_code 35 = .ok (.iconst 1, 1) := by decide +kernel
theorem d_Mo_narrow_36 : decode prog_8_method_24_code 36 = .ok (.invokevirtual 84, 3) := by decide +kernel
theorem d_Mo_narrow_39 : decode prog_8_method_24_code 39 = .ok (.ireturn, 1) := by decide +kernel
theorem d_Mo_narrow_40 : decode prog_8_method_24_code 40 = .ok (.aload_n 0, 1) := by decide +kernel
theorem d_Mo_narrow_41 : decode prog_8_method_24_code 41 = .ok (.getfield 19, 3) := by decide +kernel
theorem d_Mo_narrow_44 : decode prog_8_method_24_code 44 = .ok (.iload_n 1, 1) := by decide +kernel
theorem d_Mo_narrow_45 : decode prog_8_method_24_code 45 = .ok (.baload, 1) := by decide +kernel
theorem d_Mo_narrow_46 : decode prog_8_method_24_code 46 = .ok (.ifCond .eq 9, 3) := by decide +kernel
theorem d_Mo_narrow_49 : decode prog_8_method_24_code 49 = .ok (.aload_n 0, 1) := by decide +kernel
theorem d_Mo_narrow_50 : decode prog_8_method_24_code 50 = .ok (.iconst 2, 1) := by decide +kernel
theorem d_Mo_narrow_51 : decode prog_8_method_24_code 51 = .ok (.invokevirtual 84, 3) := by decide +kernel
theorem d_Mo_narrow_54 : decode prog_8_method_24_code 54 = .ok (.ireturn, 1) := by decide +kernel
theorem d_Mo_narrow_55 : decode prog_8_method_24_code 55 = .ok (.aload_n 0, 1) := by decide +kernel
theorem d_Mo_narrow_56 : decode prog_8_method_24_code 56 = .ok (.getfield 33, 3) := by decide +kernel
theorem d_Mo_narrow_59 : decode prog_8_method_24_code 59 = .ok (.iload_n 1, 1) := by decide +kernel
theorem d_Mo_narrow_60 : decode prog_8_method_24_code 60 = .ok (.bipush 8, 2) := by decide +kernel
theorem d_Mo_narrow_62 : decode prog_8_method_24_code 62 = .ok (.imul, 1) := by decide +kernel
theorem d_Mo_narrow_63 : decode prog_8_method_24_code 63 = .ok (.iload_n 2, 1) := by decide +kernel
theorem d_Mo_narrow_64 : decode prog_8_method_24_code 64 = .ok (.iadd, 1) := by decide +kernel
theorem d_Mo_narrow_65 : decode prog_8_method_24_code 65 = .ok (.iaload, 1) := by decide +kernel
theorem d_Mo_narrow_66 : decode prog_8_method_24_code 66 = .ok (.istore 5, 2) := by decide +kernel
theorem d_Mo_narrow_68 : decode prog_8_method_24_code 68 = .ok (.iload 5, 2) := by decide +kernel
theorem d_Mo_narrow_70 : decode prog_8_method_24_code 70 = .ok (.ifCond .ge 9, 3) := by decide +kernel
theorem d_Mo_narrow_73 : decode prog_8_method_24_code 73 = .ok (.aload_n 0, 1) := by decide +kernel
theorem d_Mo_narrow_74 : decode prog_8_method_24_code 74 = .ok (.iconst 3, 1) := by decide +kernel
theorem d_Mo_narrow_75 : decode prog_8_method_24_code 75 = .ok (.invokevirtual 84, 3) := by decide +kernel
theorem d_Mo_narrow_78 : decode prog_8_method_24_code 78 = .ok (.ireturn, 1) := by decide +kernel
theorem d_Mo_narrow_79 : decode prog_8_method_24_code 79 = .ok (.aload_n 0, 1) := by decide +kernel
theorem d_Mo_narrow_80 : decode prog_8_method_24_code 80 = .ok (.iload 5, 2) := by decide +kernel
theorem d_Mo_narrow_82 : decode prog_8_method_24_code 82 = .ok (.invokevirtual 74, 3) := by decide +kernel
theorem d_Mo_narrow_85 : decode prog_8_method_24_code 85 = .ok (.ifCond .eq 9, 3) := by decide +kernel
theorem d_Mo_narrow_88 : decode prog_8_method_24_code 88 = .ok (.aload_n 0, 1) := by decide +kernel
theorem d_Mo_narrow_89 : decode prog_8_method_24_code 89 = .ok (.iconst 2, 1) := by decide +kernel
theorem d_Mo_narrow_90 : decode prog_8_method_24_code 90 = .ok (.invokevirtual 84, 3) := by decide +kernel
theorem d_Mo_narrow_93 : decode prog_8_method_24_code 93 = .ok (.ireturn, 1) := by decide +kernel
theorem d_Mo_narrow_94 : decode prog_8_method_24_code 94 = .ok (.iload_n 3, 1) := by decide +kernel
theorem d_Mo_narrow_95 : decode prog_8_method_24_code 95 = .ok (.aload_n 0, 1) := by decide +kernel
theorem d_Mo_narrow_96 : decode prog_8_method_24_code 96 = .ok (.getfield 39, 3) := by decide +kernel
theorem d_Mo_narrow_99 : decode prog_8_method_24_code 99 = .ok (.iload 5, 2) := by decide +kernel
theorem d_Mo_narrow_101 : decode prog_8_method_24_code 101 = .ok (.iaload, 1) := by decide +kernel
theorem d_Mo_narrow_102 : decode prog_8_method_24_code 102 = .ok (.iconst (-1), 1) := by decide +kernel
theorem d_Mo_narrow_103 : decode prog_8_method_24_code 103 = .ok (.ixor, 1) := by decide +kernel
theorem d_Mo_narrow_104 : decode prog_8_method_24_code 104 = .ok (.iand, 1) := by decide +kernel
theorem d_Mo_narrow_105 : decode prog_8_method_24_code 105 = .ok (.ifCond .eq 9, 3) := by decide +kernel
theorem d_Mo_narrow_108 : decode prog_8_method_24_code 108 = .ok (.aload_n 0, 1) := by decide +kernel
theorem d_Mo_narrow_109 : decode prog_8_method_24_code 109 = .ok (.iconst 4, 1) := by decide +kernel
theorem d_Mo_narrow_110 : decode prog_8_method_24_code 110 = .ok (.invokevirtual 84, 3) := by decide +kernel
theorem d_Mo_narrow_113 : decode prog_8_method_24_code 113 = .ok (.ireturn, 1) := by decide +kernel
theorem d_Mo_narrow_114 : decode prog_8_method_24_code 114 = .ok (.aload_n 0, 1) := by decide +kernel
theorem d_Mo_narrow_115 : decode prog_8_method_24_code 115 = .ok (.getfield 13, 3) := by decide +kernel
theorem d_Mo_narrow_118 : decode prog_8_method_24_code 118 = .ok (.bipush 40, 2) := by decide +kernel
theorem d_Mo_narrow_120 : decode prog_8_method_24_code 120 = .ok (.if_icmp .ne 9, 3) := by decide +kernel
theorem d_Mo_narrow_123 : decode prog_8_method_24_code 123 = .ok (.aload_n 0, 1) := by decide +kernel
theorem d_Mo_narrow_124 : decode prog_8_method_24_code 124 = .ok (.iconst 5, 1) := by decide +kernel
theorem d_Mo_narrow_125 : decode prog_8_method_24_code 125 = .ok (.invokevirtual 84, 3) := by decide +kernel
theorem d_Mo_narrow_128 : decode prog_8_method_24_code 128 = .ok (.ireturn, 1) := by decide +kernel
theorem d_Mo_narrow_129 : decode prog_8_method_24_code 129 = .ok (.aload_n 0, 1) := by decide +kernel
theorem d_Mo_narrow_130 : decode prog_8_method_24_code 130 = .ok (.getfield 33, 3) := by decide +kernel
theorem d_Mo_narrow_133 : decode prog_8_method_24_code 133 = .ok (.iload_n 1, 1) := by decide +kernel
theorem d_Mo_narrow_134 : decode prog_8_method_24_code 134 = .ok (.bipush 8, 2) := by decide +kernel
theorem d_Mo_narrow_136 : decode prog_8_method_24_code 136 = .ok (.imul, 1) := by decide +kernel
theorem d_Mo_narrow_137 : decode prog_8_method_24_code 137 = .ok (.iload_n 2, 1) := by decide +kernel
theorem d_Mo_narrow_138 : decode prog_8_method_24_code 138 = .ok (.iadd, 1) := by decide +kernel
theorem d_Mo_narrow_139 : decode prog_8_method_24_code 139 = .ok (.aload_n 0, 1) := by decide +kernel
theorem d_Mo_narrow_140 : decode prog_8_method_24_code 140 = .ok (.aload_n 0, 1) := by decide +kernel
theorem d_Mo_narrow_141 : decode prog_8_method_24_code 141 = .ok (.getfield 36, 3) := by decide +kernel
theorem d_Mo_narrow_144 : decode prog_8_method_24_code 144 = .ok (.iload 5, 2) := by decide +kernel
theorem d_Mo_narrow_146 : decode prog_8_method_24_code 146 = .ok (.iaload, 1) := by decide +kernel
theorem d_Mo_narrow_147 : decode prog_8_method_24_code 147 = .ok (.iload_n 3, 1) := by decide +kernel
theorem d_Mo_narrow_148 : decode prog_8_method_24_code 148 = .ok (.iload 4, 2) := by decide +kernel
theorem d_Mo_narrow_150 : decode prog_8_method_24_code 150 = .ok (.iload 5, 2) := by decide +kernel
theorem d_Mo_narrow_152 : decode prog_8_method_24_code 152 = .ok (.invokevirtual 103, 3) := by decide +kernel
theorem d_Mo_narrow_155 : decode prog_8_method_24_code 155 = .ok (.iastore, 1) := by decide +kernel
theorem d_Mo_narrow_156 : decode prog_8_method_24_code 156 = .ok (.aload_n 0, 1) := by decide +kernel
theorem d_Mo_narrow_157 : decode prog_8_method_24_code 157 = .ok (.aload_n 0, 1) := by decide +kernel
theorem d_Mo_narrow_158 : decode prog_8_method_24_code 158 = .ok (.getfield 13, 3) := by decide +kernel
theorem d_Mo_narrow_161 : decode prog_8_method_24_code 161 = .ok (.invokevirtual 87, 3) := by decide +kernel
theorem d_Mo_narrow_164 : decode prog_8_method_24_code 164 = .ok (.ireturn, 1) := by decide +kernel
theorem d_Mo_give_0 : decode prog_8_method_25_code 0 = .ok (.aload_n 0, 1) := by decide +kernel
theorem d_Mo_give_1 : decode prog_8_method_25_code 1 = .ok (.iload_n 1, 1) := by decide +kernel
theorem d_Mo_give_2 : decode prog_8_method_25_code 2 = .ok (.invokevirtual 78, 3) := by decide +kernel
theorem d_Mo_give_5 : decode prog_8_method_25_code 5 = .ok (.ifCond .ne 32, 3) := by decide +kernel
theorem d_Mo_give_8 : decode prog_8_method_25_code 8 = .ok (.aload_n 0, 1) := by decide +kernel
theorem d_Mo_give_9 : decode prog_8_method_25_code 9 = .ok (.iload_n 3, 1) := by decide +kernel
theorem d_Mo_give_10 : decode prog_8_method_25_code 10 = .ok (.invokevirtual 78, 3) := by decide +kernel
theorem d_Mo_give_13 : decode prog_8_method_25_code 13 = .ok (.ifCond .ne 24, 3) := by decide +kernel
theorem d_Mo_give_16 : decode prog_8_method_25_code 16 = .ok (.aload_n 0, 1) := by decide +kernel
theorem d_Mo_give_17 : decode prog_8_method_25_code 17 = .ok (.iload_n 2, 1) := by decide +kernel
theorem d_Mo_give_18 : decode prog_8_method_25_code 18 = .ok (.bipush 8, 2) := by decide +kernel
theorem d_Mo_give_20 : decode prog_8_method_25_code 20 = .ok (.invokevirtual 66, 3) := by decide +kernel
theorem d_Mo_give_23 : decode prog_8_method_25_code 23 = .ok (.ifCond .ne 14, 3) := by decide +kernel
theorem d_Mo_give_26 : decode prog_8_method_25_code 26 = .ok (.aload_n 0, 1) := by decide +kernel
theorem d_Mo_give_27 : decode prog_8_method_25_code 27 = .ok (.iload 4, 2) := by decide +kernel
theorem d_Mo_give_29 : decode prog_8_method_25_code 29 = .ok (.bipush 8, 2) := by decide +kernel
theorem d_Mo_give_31 : decode prog_8_method_25_code 31 = .ok (.invokevirtual 66, 3) := by decide +kernel
theorem d_Mo_give_34 : decode prog_8_method_25_code 34 = .ok (.ifCond .eq 9, 3) := by decide +kernel
theorem d_Mo_give_37 : decode prog_8_method_25_code 37 = .ok (.aload_n 0, 1) := by decide +kernel
theorem d_Mo_give_38 : decode prog_8_method_25_code 38 = .ok (.iconst 1, 1) := by decide +kernel
theorem d_Mo_give_39 : decode prog_8_method_25_code 39 = .ok (.invokevirtual 84, 3) := by decide +kernel
theorem d_Mo_give_42 : decode prog_8_method_25_code 42 = .ok (.ireturn, 1) := by decide +kernel
theorem d_Mo_give_43 : decode prog_8_method_25_code 43 = .ok (.aload_n 0, 1) := by decide +kernel
theorem d_Mo_give_44 : decode prog_8_method_25_code 44 = .ok (.getfield 19, 3) := by decide +kernel
theorem d_Mo_give_47 : decode prog_8_method_25_code 47 = .ok (.iload_n 1, 1) := by decide +kernel
theorem d_Mo_give_48 : decode prog_8_method_25_code 48 = .ok (.baload, 1) := by decide +kernel
theorem d_Mo_give_49 : decode prog_8_method_25_code 49 = .ok (.ifCond .ne 12, 3) := by decide +kernel
theorem d_Mo_give_52 : decode prog_8_method_25_code 52 = .ok (.aload_n 0, 1) := by decide +kernel
theorem d_Mo_give_53 : decode prog_8_method_25_code 53 = .ok (.getfield 19, 3) := by decide +kernel
theorem d_Mo_give_56 : decode prog_8_method_25_code 56 = .ok (.iload_n 3, 1) := by decide +kernel
theorem d_Mo_give_57 : decode prog_8_method_25_code 57 = .ok (.baload, 1) := by decide +kernel
theorem d_Mo_give_58 : decode prog_8_method_25_code 58 = .ok (.ifCond .eq 9, 3) := by decide +kernel
theorem d_Mo_give_61 : decode prog_8_method_25_code 61 = .ok (.aload_n 0, 1) := by decide +kernel
theorem d_Mo_give_62 : decode prog_8_method_25_code 62 = .ok (.iconst 2, 1) := by decide +kernel
theorem d_Mo_give_63 : decode prog_8_method_25_code 63 = .ok (.invokevirtual 84, 3) := by decide +kernel
theorem d_Mo_give_66 : decode prog_8_method_25_code 66 = .ok (.ireturn, 1) := by decide +kernel
theorem d_Mo_give_67 : decode prog_8_method_25_code 67 = .ok (.aload_n 0, 1) := by decide +kernel
theorem d_Mo_give_68 : decode prog_8_method_25_code 68 = .ok (.getfield 33, 3) := by decide +kernel
theorem d_Mo_give_71 : decode prog_8_method_25_code 71 = .ok (.iload_n 1, 1) := by decide +kernel
theorem d_Mo_give_72 : decode prog_8_method_25_code 72 = .ok (.bipush 8, 2) := by decide +kernel
theorem d_Mo_give_74 : decode prog_8_method_25_code 74 = .ok (.imul, 1) := by decide +kernel
theorem d_Mo_give_75 : decode prog_8_method_25_code 75 = .ok (.iload_n 2, 1) := by decide +kernel
theorem d_Mo_give_76 : decode prog_8_method_25_code 76 = .ok (.iadd, 1) := by decide +kernel
theorem d_Mo_give_77 : decode prog_8_method_25_code 77 = .ok (.iaload, 1) := by decide +kernel
theorem d_Mo_give_78 : decode prog_8_method_25_code 78 = .ok (.ifCond .ge 9, 3) := by decide +kernel
theorem d_Mo_give_81 : decode prog_8_method_25_code 81 = .ok (.aload_n 0, 1) := by decide +kernel
theorem d_Mo_give_82 : decode prog_8_method_25_code 82 = .ok (.iconst 3, 1) := by decide +kernel
theorem d_Mo_give_83 : decode prog_8_method_25_code 83 = .ok (.invokevirtual 84, 3) := by decide +kernel
theorem d_Mo_give_86 : decode prog_8_method_25_code 86 = .ok (.ireturn, 1) := by decide +kernel
theorem d_Mo_give_87 : decode prog_8_method_25_code 87 = .ok (.aload_n 0, 1) := by decide +kernel
theorem d_Mo_give_88 : decode prog_8_method_25_code 88 = .ok (.getfield 33, 3) := by decide +kernel
theorem d_Mo_give_91 : decode prog_8_method_25_code 91 = .ok (.iload_n 3, 1) := by decide +kernel
theorem d_Mo_give_92 : decode prog_8_method_25_code 92 = .ok (.bipush 8, 2) := by decide +kernel
theorem d_Mo_give_94 : decode prog_8_method_25_code 94 = .ok (.imul, 1) := by decide +kernel
theorem d_Mo_give_95 : decode prog_8_method_25_code 95 = .ok (.iload 4, 2) := by decide +kernel
theorem d_Mo_give_97 : decode prog_8_method_25_code 97 = .ok (.iadd, 1) := by decide +kernel
theorem d_Mo_give_98 : decode prog_8_method_25_code 98 = .ok (.iaload, 1) := by decide +kernel
theorem d_Mo_give_99 : decode prog_8_method_25_code 99 = .ok (.ifCond .lt 7, 3) := by decide +kernel
theorem d_Mo_give_102 : decode prog_8_method_25_code 102 = .ok (.iconst 1, 1) := by decide +kernel
theorem d_Mo_give_103 : decode prog_8_method_25_code 103 = .ok (.goto 4, 3) := by decide +kernel
theorem d_Mo_give_106 : decode prog_8_method_25_code 106 = .ok (.iconst 0, 1) := by decide +kernel
theorem d_Mo_give_107 : decode prog_8_method_25_code 107 = .ok (.istore 5, 2) := by decide +kernel
theorem d_Mo_give_109 : decode prog_8_method_25_code 109 = .ok (.aload_n 0, 1) := by decide +kernel
theorem d_Mo_give_110 : decode prog_8_method_25_code 110 = .ok (.getfield 33, 3) := by decide +kernel
theorem d_Mo_give_113 : decode prog_8_method_25_code 113 = .ok (.iload_n 3, 1) := by decide +kernel
theorem d_Mo_give_114 : decode prog_8_method_25_code 114 = .ok (.bipush 8, 2) := by decide +kernel
theorem d_Mo_give_116 : decode prog_8_method_25_code 116 = .ok (.imul, 1) := by decide +kernel
theorem d_Mo_give_117 : decode prog_8_method_25_code 117 = .ok (.iload 4, 2) := by decide +kernel
theorem d_Mo_give_119 : decode prog_8_method_25_code 119 = .ok (.iadd, 1) := by decide +kernel
theorem d_Mo_give_120 : decode prog_8_method_25_code 120 = .ok (.aload_n 0, 1) := by decide +kernel
theorem d_Mo_give_121 : decode prog_8_method_25_code 121 = .ok (.getfield 33, 3) := by decide +kernel
theorem d_Mo_give_124 : decode prog_8_method_25_code 124 = .ok (.iload_n 1, 1) := by decide +kernel
theorem d_Mo_give_125 : decode prog_8_method_25_code 125 = .ok (.bipush 8, 2) := by decide +kernel
theorem d_Mo_give_127 : decode prog_8_method_25_code 127 = .ok (.imul, 1) := by decide +kernel
theorem d_Mo_give_128 : decode prog_8_method_25_code 128 = .ok (.iload_n 2, 1) := by decide +kernel
theorem d_Mo_give_129 : decode prog_8_method_25_code 129 = .ok (.iadd, 1) := by decide +kernel
theorem d_Mo_give_130 : decode prog_8_method_25_code 130 = .ok (.iaload, 1) := by decide +kernel
theorem d_Mo_give_131 : decode prog_8_method_25_code 131 = .ok (.iastore, 1) := by decide +kernel
theorem d_Mo_give_132 : decode prog_8_method_25_code 132 = .ok (.aload_n 0, 1) := by decide +kernel
theorem d_Mo_give_133 : decode prog_8_method_25_code 133 = .ok (.iload 5, 2) := by decide +kernel
theorem d_Mo_give_135 : decode prog_8_method_25_code 135 = .ok (.invokevirtual 87, 3) := by decide +kernel
theorem d_Mo_give_138 : decode prog_8_method_25_code 138 = .ok (.ireturn, 1) := by decide +kernel
theorem d_Mo_revoke_0 : decode prog_8_method_26_code 0 = .ok (.aload_n 0, 1) := by decide +kernel
theorem d_Mo_revoke_1 : decode prog_8_method_26_code 1 = .ok (.iload_n 1, 1) := by decide +kernel
theorem d_Mo_revoke_2 : decode prog_8_method_26_code 2 = .ok (.invokevirtual 78, 3) := by decide +kernel
theorem d_Mo_revoke_5 : decode prog_8_method_26_code 5 = .ok (.ifCond .ne 13, 3) := by decide +kernel
theorem d_Mo_revoke_8 : decode prog_8_method_26_code 8 = .ok (.aload_n 0, 1) := by decide +kernel
theorem d_Mo_revoke_9 : decode prog_8_method_26_code 9 = .ok (.iload_n 2, 1) := by decide +kernel
theorem d_Mo_revoke_10 : decode prog_8_method_26_code 10 = .ok (.bipush 8, 2) := by decide +kernel
theorem d_Mo_revoke_12 : decode prog_8_method_26_code 12 = .ok (.invokevirtual 66, 3) := by decide +kernel
theorem d_Mo_revoke_15 : decode prog_8_method_26_code 15 = .ok (.ifCond .eq 9, 3) := by decide +kernel
theorem d_Mo_revoke_18 : decode prog_8_method_26_code 18 = .ok (.aload_n 0, 1) := by decide +kernel
theorem d_Mo_revoke_19 : decode prog_8_method_26_code 19 = .ok (.iconst 1, 1) := by decide +kernel
theorem d_Mo_revoke_20 : decode prog_8_method_26_code 20 = .ok (.invokevirtual 84, 3) := by decide +kernel
theorem d_Mo_revoke_23 : decode prog_8_method_26_code 23 = .ok (.ireturn, 1) := by decide +kernel
theorem d_Mo_revoke_24 : decode prog_8_method_26_code 24 = .ok (.aload_n 0, 1) := by decide +kernel
theorem d_Mo_revoke_25 : decode prog_8_method_26_code 25 = .ok (.getfield 19, 3) := by decide +kernel
theorem d_Mo_revoke_28 : decode prog_8_method_26_code 28 = .ok (.iload_n 1, 1) := by decide +kernel
theorem d_Mo_revoke_29 : decode prog_8_method_26_code 29 = .ok (.baload, 1) := by decide +kernel
theorem d_Mo_revoke_30 : decode prog_8_method_26_code 30 = .ok (.ifCond .eq 9, 3) := by decide +kernel
theorem d_Mo_revoke_33 : decode prog_8_method_26_code 33 = .ok (.aload_n 0, 1) := by decide +kernel
theorem d_Mo_revoke_34 : decode prog_8_method_26_code 34 = .ok (.iconst 2, 1) := by decide +kernel
theorem d_Mo_revoke_35 : decode prog_8_method_26_code 35 = .ok (.invokevirtual 84, 3) := by decide +kernel
theorem d_Mo_revoke_38 : decode prog_8_method_26_code 38 = .ok (.ireturn, 1) := by decide +kernel
theorem d_Mo_revoke_39 : decode prog_8_method_26_code 39 = .ok (.aload_n 0, 1) := by decide +kernel
theorem d_Mo_revoke_40 : decode prog_8_method_26_code 40 = .ok (.getfield 33, 3) := by decide +kernel
theorem d_Mo_revoke_43 : decode prog_8_method_26_code 43 = .ok (.iload_n 1, 1) := by decide +kernel
theorem d_Mo_revoke_44 : decode prog_8_method_26_code 44 = .ok (.bipush 8, 2) := by decide +kernel
theorem d_Mo_revoke_46 : decode prog_8_method_26_code 46 = .ok (.imul, 1) := by decide +kernel
theorem d_Mo_revoke_47 : decode prog_8_method_26_code 47 = .ok (.iload_n 2, 1) := by decide +kernel
theorem d_Mo_revoke_48 : decode prog_8_method_26_code 48 = .ok (.iadd, 1) := by decide +kernel
theorem d_Mo_revoke_49 : decode prog_8_method_26_code 49 = .ok (.iaload, 1) := by decide +kernel
theorem d_Mo_revoke_50 : decode prog_8_method_26_code 50 = .ok (.istore_n 3, 1) := by decide +kernel
theorem d_Mo_revoke_51 : decode prog_8_method_26_code 51 = .ok (.iload_n 3, 1) := by decide +kernel
theorem d_Mo_revoke_52 : decode prog_8_method_26_code 52 = .ok (.ifCond .ge 9, 3) := by decide +kernel
theorem d_Mo_revoke_55 : decode prog_8_method_26_code 55 = .ok (.aload_n 0, 1) := by decide +kernel
theorem d_Mo_revoke_56 : decode prog_8_method_26_code 56 = .ok (.iconst 3, 1) := by decide +kernel
theorem d_Mo_revoke_57 : decode prog_8_method_26_code 57 = .ok (.invokevirtual 84, 3) := by decide +kernel
theorem d_Mo_revoke_60 : decode prog_8_method_26_code 60 = .ok (.ireturn, 1) := by decide +kernel
theorem d_Mo_revoke_61 : decode prog_8_method_26_code 61 = .ok (.aload_n 0, 1) := by decide +kernel
theorem d_Mo_revoke_62 : decode prog_8_method_26_code 62 = .ok (.iload_n 3, 1) := by decide +kernel
theorem d_Mo_revoke_63 : decode prog_8_method_26_code 63 = .ok (.invokevirtual 70, 3) := by decide +kernel
theorem d_Mo_revoke_66 : decode prog_8_method_26_code 66 = .ok (.iload_n 1, 1) := by decide +kernel
theorem d_Mo_revoke_67 : decode prog_8_method_26_code 67 = .ok (.if_icmp .eq 9, 3) := by decide +kernel
theorem d_Mo_revoke_70 : decode prog_8_method_26_code 70 = .ok (.aload_n 0, 1) := by decide +kernel
theorem d_Mo_revoke_71 : decode prog_8_method_26_code 71 = .ok (.iconst 4, 1) := by decide +kernel
theorem d_Mo_revoke_72 : decode prog_8_method_26_code 72 = .ok (.invokevirtual 84, 3) := by decide +kernel
theorem d_Mo_revoke_75 : decode prog_8_method_26_code 75 = .ok (.ireturn, 1) := by decide +kernel
theorem d_Mo_revoke_76 : decode prog_8_method_26_code 76 = .ok (.aload_n 0, 1) := by decide +kernel
theorem d_Mo_revoke_77 : decode prog_8_method_26_code 77 = .ok (.invokevirtual 107, 3) := by decide +kernel
theorem d_Mo_revoke_80 : decode prog_8_method_26_code 80 = .ok (.istore 4, 2) := by decide +kernel
theorem d_Mo_revoke_82 : decode prog_8_method_26_code 82 = .ok (.aload_n 0, 1) := by decide +kernel
theorem d_Mo_revoke_83 : decode prog_8_method_26_code 83 = .ok (.getfield 48, 3) := by decide +kernel
theorem d_Mo_revoke_86 : decode prog_8_method_26_code 86 = .ok (.iload_n 3, 1) := by decide +kernel
theorem d_Mo_revoke_87 : decode prog_8_method_26_code 87 = .ok (.iconst 1, 1) := by decide +kernel
theorem d_Mo_revoke_88 : decode prog_8_method_26_code 88 = .ok (.bastore, 1) := by decide +kernel
theorem d_Mo_revoke_89 : decode prog_8_method_26_code 89 = .ok (.aload_n 0, 1) := by decide +kernel
theorem d_Mo_revoke_90 : decode prog_8_method_26_code 90 = .ok (.iload 4, 2) := by decide +kernel
theorem d_Mo_revoke_92 : decode prog_8_method_26_code 92 = .ok (.aload_n 0, 1) := by decide +kernel
theorem d_Mo_revoke_93 : decode prog_8_method_26_code 93 = .ok (.invokevirtual 107, 3) := by decide +kernel
theorem d_Mo_revoke_96 : decode prog_8_method_26_code 96 = .ok (.isub, 1) := by decide +kernel
theorem d_Mo_revoke_97 : decode prog_8_method_26_code 97 = .ok (.invokevirtual 87, 3) := by decide +kernel
theorem d_Mo_revoke_100 : decode prog_8_method_26_code 100 = .ok (.ireturn, 1) := by decide +kernel
theorem d_Mo_read_0 : decode prog_8_method_27_code 0 = .ok (.aload_n 0, 1) := by decide +kernel
theorem d_Mo_read_1 : decode prog_8_method_27_code 1 = .ok (.iload_n 1, 1) := by decide +kernel
theorem d_Mo_read_2 : decode prog_8_method_27_code 2 = .ok (.iload_n 2, 1) := by decide +kernel
theorem d_Mo_read_3 : decode prog_8_method_27_code 3 = .ok (.iconst 1, 1) := by decide +kernel
theorem d_Mo_read_4 : decode prog_8_method_27_code 4 = .ok (.invokevirtual 111, 3) := by decide +kernel
theorem d_Mo_read_7 : decode prog_8_method_27_code 7 = .ok (.istore 4, 2) := by decide +kernel
theorem d_Mo_read_9 : decode prog_8_method_27_code 9 = .ok (.iload 4, 2) := by decide +kernel
theorem d_Mo_read_11 : decode prog_8_method_27_code 11 = .ok (.ifCond .eq 10, 3) := by decide +kernel
theorem d_Mo_read_14 : decode prog_8_method_27_code 14 = .ok (.aload_n 0, 1) := by decide +kernel
theorem d_Mo_read_15 : decode prog_8_method_27_code 15 = .ok (.iload 4, 2) := by decide +kernel
theorem d_Mo_read_17 : decode prog_8_method_27_code 17 = .ok (.invokevirtual 84, 3) := by decide +kernel
theorem d_Mo_read_20 : decode prog_8_method_27_code 20 = .ok (.ireturn, 1) := by decide +kernel
theorem d_Mo_read_21 : decode prog_8_method_27_code 21 = .ok (.aload_n 0, 1) := by decide +kernel
theorem d_Mo_read_22 : decode prog_8_method_27_code 22 = .ok (.iload_n 3, 1) := by decide +kernel
theorem d_Mo_read_23 : decode prog_8_method_27_code 23 = .ok (.iconst 3, 1) := by decide +kernel
theorem d_Mo_read_24 : decode prog_8_method_27_code 24 = .ok (.invokevirtual 66, 3) := by decide +kernel
theorem d_Mo_read_27 : decode prog_8_method_27_code 27 = .ok (.ifCond .eq 9, 3) := by decide +kernel
theorem d_Mo_read_30 : decode prog_8_method_27_code 30 = .ok (.aload_n 0, 1) := by decide +kernel
theorem d_Mo_read_31 : decode prog_8_method_27_code 31 = .ok (.iconst 5, 1) := by decide +kernel
theorem d_Mo_read_32 : decode prog_8_method_27_code 32 = .ok (.invokevirtual 84, 3) := by decide +kernel
theorem d_Mo_read_35 : decode prog_8_method_27_code 35 = .ok (.ireturn, 1) := by decide +kernel
theorem d_Mo_read_36 : decode prog_8_method_27_code 36 = .ok (.aload_n 0, 1) := by decide +kernel
theorem d_Mo_read_37 : decode prog_8_method_27_code 37 = .ok (.getfield 33, 3) := by decide +kernel
theorem d_Mo_read_40 : decode prog_8_method_27_code 40 = .ok (.iload_n 1, 1) := by decide +kernel
theorem d_Mo_read_41 : decode prog_8_method_27_code 41 = .ok (.bipush 8, 2) := by decide +kernel
theorem d_Mo_read_43 : decode prog_8_method_27_code 43 = .ok (.imul, 1) := by decide +kernel
theorem d_Mo_read_44 : decode prog_8_method_27_code 44 = .ok (.iload_n 2, 1) := by decide +kernel
theorem d_Mo_read_45 : decode prog_8_method_27_code 45 = .ok (.iadd, 1) := by decide +kernel
theorem d_Mo_read_46 : decode prog_8_method_27_code 46 = .ok (.iaload, 1) := by decide +kernel
theorem d_Mo_read_47 : decode prog_8_method_27_code 47 = .ok (.istore 5, 2) := by decide +kernel
theorem d_Mo_read_49 : decode prog_8_method_27_code 49 = .ok (.aload_n 0, 1) := by decide +kernel
theorem d_Mo_read_50 : decode prog_8_method_27_code 50 = .ok (.getfield 36, 3) := by decide +kernel
theorem d_Mo_read_53 : decode prog_8_method_27_code 53 = .ok (.iload 5, 2) := by decide +kernel
theorem d_Mo_read_55 : decode prog_8_method_27_code 55 = .ok (.iaload, 1) := by decide +kernel
theorem d_Mo_read_56 : decode prog_8_method_27_code 56 = .ok (.iconst 3, 1) := by decide +kernel
theorem d_Mo_read_57 : decode prog_8_method_27_code 57 = .ok (.imul, 1) := by decide +kernel
theorem d_Mo_read_58 : decode prog_8_method_27_code 58 = .ok (.iload_n 3, 1) := by decide +kernel
theorem d_Mo_read_59 : decode prog_8_method_27_code 59 = .ok (.iadd, 1) := by decide +kernel
theorem d_Mo_read_60 : decode prog_8_method_27_code 60 = .ok (.istore 6, 2) := by decide +kernel
theorem d_Mo_read_62 : decode prog_8_method_27_code 62 = .ok (.aload_n 0, 1) := by decide +kernel
theorem d_Mo_read_63 : decode prog_8_method_27_code 63 = .ok (.getfield 26, 3) := by decide +kernel
theorem d_Mo_read_66 : decode prog_8_method_27_code 66 = .ok (.iload 6, 2) := by decide +kernel
theorem d_Mo_read_68 : decode prog_8_method_27_code 68 = .ok (.iaload, 1) := by decide +kernel
theorem d_Mo_read_69 : decode prog_8_method_27_code 69 = .ok (.ifCond .eq 10, 3) := by decide +kernel
theorem d_Mo_read_72 : decode prog_8_method_27_code 72 = .ok (.aload_n 0, 1) := by decide +kernel
theorem d_Mo_read_73 : decode prog_8_method_27_code 73 = .ok (.bipush 6, 2) := by decide +kernel
theorem d_Mo_read_75 : decode prog_8_method_27_code 75 = .ok (.invokevirtual 84, 3) := by decide +kernel
theorem d_Mo_read_78 : decode prog_8_method_27_code 78 = .ok (.ireturn, 1) := by decide +kernel
theorem d_Mo_read_79 : decode prog_8_method_27_code 79 = .ok (.aload_n 0, 1) := by decide +kernel
theorem d_Mo_read_80 : decode prog_8_method_27_code 80 = .ok (.iload 5, 2) := by decide +kernel
theorem d_Mo_read_82 : decode prog_8_method_27_code 82 = .ok (.invokevirtual 115, 3) := by decide +kernel
theorem d_Mo_read_85 : decode prog_8_method_27_code 85 = .ok (.aload_n 0, 1) := by decide +kernel
theorem d_Mo_read_86 : decode prog_8_method_27_code 86 = .ok (.aload_n 0, 1) := by decide +kernel
theorem d_Mo_read_87 : decode prog_8_method_27_code 87 = .ok (.getfield 30, 3) := by decide +kernel
theorem d_Mo_read_90 : decode prog_8_method_27_code 90 = .ok (.iload 6, 2) := by decide +kernel
theorem d_Mo_read_92 : decode prog_8_method_27_code 92 = .ok (.iaload, 1) := by decide +kernel
theorem d_Mo_read_93 : decode prog_8_method_27_code 93 = .ok (.invokevirtual 87, 3) := by decide +kernel
theorem d_Mo_read_96 : decode prog_8_method_27_code 96 = .ok (.ireturn, 1) := by decide +kernel
theorem d_Mo_write_0 : decode prog_8_method_28_code 0 = .ok (.aload_n 0, 1) := by decide +kernel
theorem d_Mo_write_1 : decode prog_8_method_28_code 1 = .ok (.iload_n 1, 1) := by decide +kernel
theorem d_Mo_write_2 : decode prog_8_method_28_code 2 = .ok (.iload_n 2, 1) := by decide +kernel
theorem d_Mo_write_3 : decode prog_8_method_28_code 3 = .ok (.iconst 2, 1) := by decide +kernel
theorem d_Mo_write_4 : decode prog_8_method_28_code 4 = .ok (.invokevirtual 111, 3) := by decide +kernel
theorem d_Mo_write_7 : decode prog_8_method_28_code 7 = .ok (.istore 5, 2) := by decide +kernel
theorem d_Mo_write_9 : decode prog_8_method_28_code 9 = .ok (.iload 5, 2) := by decide +kernel
theorem d_Mo_write_11 : decode prog_8_method_28_code 11 = .ok (.ifCond .eq 10, 3) := by decide +kernel
theorem d_Mo_write_14 : decode prog_8_method_28_code 14 = .ok (.aload_n 0, 1) := by decide +kernel
theorem d_Mo_write_15 : decode prog_8_method_28_code 15 = .ok (.iload 5, 2) := by decide +kernel
theorem d_Mo_write_17 : decode prog_8_method_28_code 17 = .ok (.invokevirtual 84, 3) := by decide +kernel
theorem d_Mo_write_20 : decode prog_8_method_28_code 20 = .ok (.ireturn, 1) := by decide +kernel
theorem d_Mo_write_21 : decode prog_8_method_28_code 21 = .ok (.aload_n 0, 1) := by decide +kernel
theorem d_Mo_write_22 : decode prog_8_method_28_code 22 = .ok (.iload_n 3, 1) := by decide +kernel
theorem d_Mo_write_23 : decode prog_8_method_28_code 23 = .ok (.iconst 3, 1) := by decide +kernel
theorem d_Mo_write_24 : decode prog_8_method_28_code 24 = .ok (.invokevirtual 66, 3) := by decide +kernel
theorem d_Mo_write_27 : decode prog_8_method_28_code 27 = .ok (.ifCond .eq 9, 3) := by decide +kernel
theorem d_Mo_write_30 : decode prog_8_method_28_code 30 = .ok (.aload_n 0, 1) := by decide +kernel
theorem d_Mo_write_31 : decode prog_8_method_28_code 31 = .ok (.iconst 5, 1) := by decide +kernel
theorem d_Mo_write_32 : decode prog_8_method_28_code 32 = .ok (.invokevirtual 84, 3) := by decide +kernel
theorem d_Mo_write_35 : decode prog_8_method_28_code 35 = .ok (.ireturn, 1) := by decide +kernel
theorem d_Mo_write_36 : decode prog_8_method_28_code 36 = .ok (.aload_n 0, 1) := by decide +kernel
theorem d_Mo_write_37 : decode prog_8_method_28_code 37 = .ok (.getfield 33, 3) := by decide +kernel
theorem d_Mo_write_40 : decode prog_8_method_28_code 40 = .ok (.iload_n 1, 1) := by decide +kernel
theorem d_Mo_write_41 : decode prog_8_method_28_code 41 = .ok (.bipush 8, 2) := by decide +kernel
theorem d_Mo_write_43 : decode prog_8_method_28_code 43 = .ok (.imul, 1) := by decide +kernel
theorem d_Mo_write_44 : decode prog_8_method_28_code 44 = .ok (.iload_n 2, 1) := by decide +kernel
theorem d_Mo_write_45 : decode prog_8_method_28_code 45 = .ok (.iadd, 1) := by decide +kernel
theorem d_Mo_write_46 : decode prog_8_method_28_code 46 = .ok (.iaload, 1) := by decide +kernel
theorem d_Mo_write_47 : decode prog_8_method_28_code 47 = .ok (.istore 6, 2) := by decide +kernel
theorem d_Mo_write_49 : decode prog_8_method_28_code 49 = .ok (.aload_n 0, 1) := by decide +kernel
theorem d_Mo_write_50 : decode prog_8_method_28_code 50 = .ok (.aload_n 0, 1) := by decide +kernel
theorem d_Mo_write_51 : decode prog_8_method_28_code 51 = .ok (.getfield 36, 3) := by decide +kernel
theorem d_Mo_write_54 : decode prog_8_method_28_code 54 = .ok (.iload 6, 2) := by decide +kernel
theorem d_Mo_write_56 : decode prog_8_method_28_code 56 = .ok (.iaload, 1) := by decide +kernel
theorem d_Mo_write_57 : decode prog_8_method_28_code 57 = .ok (.iconst 3, 1) := by decide +kernel
theorem d_Mo_write_58 : decode prog_8_method_28_code 58 = .ok (.imul, 1) := by decide +kernel
theorem d_Mo_write_59 : decode prog_8_method_28_code 59 = .ok (.iload_n 3, 1) := by decide +kernel
theorem d_Mo_write_60 : decode prog_8_method_28_code 60 = .ok (.iadd, 1) := by decide +kernel
theorem d_Mo_write_61 : decode prog_8_method_28_code 61 = .ok (.iconst 0, 1) := by decide +kernel
theorem d_Mo_write_62 : decode prog_8_method_28_code 62 = .ok (.iload 4, 2) := by decide +kernel
theorem d_Mo_write_64 : decode prog_8_method_28_code 64 = .ok (.invokevirtual 90, 3) := by decide +kernel
theorem d_Mo_write_67 : decode prog_8_method_28_code 67 = .ok (.aload_n 0, 1) := by decide +kernel
theorem d_Mo_write_68 : decode prog_8_method_28_code 68 = .ok (.iload 6, 2) := by decide +kernel
theorem d_Mo_write_70 : decode prog_8_method_28_code 70 = .ok (.invokevirtual 115, 3) := by decide +kernel
theorem d_Mo_write_73 : decode prog_8_method_28_code 73 = .ok (.aload_n 0, 1) := by decide +kernel
theorem d_Mo_write_74 : decode prog_8_method_28_code 74 = .ok (.aload_n 0, 1) := by decide +kernel
theorem d_Mo_write_75 : decode prog_8_method_28_code 75 = .ok (.getfield 42, 3) := by decide +kernel
theorem d_Mo_write_78 : decode prog_8_method_28_code 78 = .ok (.iload 6, 2) := by decide +kernel
theorem d_Mo_write_80 : decode prog_8_method_28_code 80 = .ok (.iaload, 1) := by decide +kernel
theorem d_Mo_write_81 : decode prog_8_method_28_code 81 = .ok (.invokevirtual 87, 3) := by decide +kernel
theorem d_Mo_write_84 : decode prog_8_method_28_code 84 = .ok (.ireturn, 1) := by decide +kernel
theorem d_Mo_gather_0 : decode prog_8_method_29_code 0 = .ok (.iconst 0, 1) := by decide +kernel
theorem d_Mo_gather_1 : decode prog_8_method_29_code 1 = .ok (.istore_n 3, 1) := by decide +kernel
theorem d_Mo_gather_2 : decode prog_8_method_29_code 2 = .ok (.iload_n 3, 1) := by decide +kernel
theorem d_Mo_gather_3 : decode prog_8_method_29_code 3 = .ok (.bipush 12, 2) := by decide +kernel
theorem d_Mo_gather_5 : decode prog_8_method_29_code 5 = .ok (.if_icmp .ge 16, 3) := by decide +kernel
theorem d_Mo_gather_8 : decode prog_8_method_29_code 8 = .ok (.aload_n 0, 1) := by decide +kernel
theorem d_Mo_gather_9 : decode prog_8_method_29_code 9 = .ok (.getfield 54, 3) := by decide +kernel
theorem d_Mo_gather_12 : decode prog_8_method_29_code 12 = .ok (.iload_n 3, 1) := by decide +kernel
theorem d_Mo_gather_13 : decode prog_8_method_29_code 13 = .ok (.iconst (-1), 1) := by decide +kernel
theorem d_Mo_gather_14 : decode prog_8_method_29_code 14 = .ok (.iastore, 1) := by decide +kernel
theorem d_Mo_gather_15 : decode prog_8_method_29_code 15 = .ok (.iinc 3 1, 3) := by decide +kernel
theorem d_Mo_gather_18 : decode prog_8_method_29_code 18 = .ok (.goto (-16), 3) := by decide +kernel
theorem d_Mo_gather_21 : decode prog_8_method_29_code 21 = .ok (.aload_n 0, 1) := by decide +kernel
theorem d_Mo_gather_22 : decode prog_8_method_29_code 22 = .ok (.iconst 1, 1) := by decide +kernel
theorem d_Mo_gather_23 : decode prog_8_method_29_code 23 = .ok (.putfield 63, 3) := by decide +kernel
theorem d_Mo_gather_26 : decode prog_8_method_29_code 26 = .ok (.aload_n 0, 1) := by decide +kernel
theorem d_Mo_gather_27 : decode prog_8_method_29_code 27 = .ok (.getfield 51, 3) := by decide +kernel
theorem d_Mo_gather_30 : decode prog_8_method_29_code 30 = .ok (.iconst 0, 1) := by decide +kernel
theorem d_Mo_gather_31 : decode prog_8_method_29_code 31 = .ok (.iload_n 2, 1) := by decide +kernel
theorem d_Mo_gather_32 : decode prog_8_method_29_code 32 = .ok (.iastore, 1) := by decide +kernel
theorem d_Mo_gather_33 : decode prog_8_method_29_code 33 = .ok (.aload_n 0, 1) := by decide +kernel
theorem d_Mo_gather_34 : decode prog_8_method_29_code 34 = .ok (.getfield 54, 3) := by decide +kernel
theorem d_Mo_gather_37 : decode prog_8_method_29_code 37 = .ok (.iload_n 2, 1) := by decide +kernel
theorem d_Mo_gather_38 : decode prog_8_method_29_code 38 = .ok (.iconst 0, 1) := by decide +kernel
theorem d_Mo_gather_39 : decode prog_8_method_29_code 39 = .ok (.iastore, 1) := by decide +kernel
theorem d_Mo_gather_40 : decode prog_8_method_29_code 40 = .ok (.aload_n 0, 1) := by decide +kernel
theorem d_Mo_gather_41 : decode prog_8_method_29_code 41 = .ok (.getfield 57, 3) := by decide +kernel
theorem d_Mo_gather_44 : decode prog_8_method_29_code 44 = .ok (.iconst 0, 1) := by decide +kernel
theorem d_Mo_gather_45 : decode prog_8_method_29_code 45 = .ok (.iload_n 2, 1) := by decide +kernel
theorem d_Mo_gather_46 : decode prog_8_method_29_code 46 = .ok (.iastore, 1) := by decide +kernel
theorem d_Mo_gather_47 : decode prog_8_method_29_code 47 = .ok (.aload_n 0, 1) := by decide +kernel
theorem d_Mo_gather_48 : decode prog_8_method_29_code 48 = .ok (.getfield 60, 3) := by decide +kernel
theorem d_Mo_gather_51 : decode prog_8_method_29_code 51 = .ok (.iconst 0, 1) := by decide +kernel
theorem d_Mo_gather_52 : decode prog_8_method_29_code 52 = .ok (.iconst 0, 1) := by decide +kernel
theorem d_Mo_gather_53 : decode prog_8_method_29_code 53 = .ok (.iastore, 1) := by decide +kernel
theorem d_Mo_gather_54 : decode prog_8_method_29_code 54 = .ok (.iconst 1, 1) := by decide +kernel
theorem d_Mo_gather_55 : decode prog_8_method_29_code 55 = .ok (.istore_n 3, 1) := by decide +kernel
theorem d_Mo_gather_56 : decode prog_8_method_29_code 56 = .ok (.iload_n 3, 1) := by decide +kernel
theorem d_Mo_gather_57 : decode prog_8_method_29_code 57 = .ok (.ifCond .le 157, 3) := by decide +kernel
theorem d_Mo_gather_60 : decode prog_8_method_29_code 60 = .ok (.iload_n 3, 1) := by decide +kernel
theorem d_Mo_gather_61 : decode prog_8_method_29_code 61 = .ok (.iconst 1, 1) := by decide +kernel
theorem d_Mo_gather_62 : decode prog_8_method_29_code 62 = .ok (.isub, 1) := by decide +kernel
theorem d_Mo_gather_63 : decode prog_8_method_29_code 63 = .ok (.istore 4, 2) := by decide +kernel
theorem d_Mo_gather_65 : decode prog_8_method_29_code 65 = .ok (.aload_n 0, 1) := by decide +kernel
theorem d_Mo_gather_66 : decode prog_8_method_29_code 66 = .ok (.getfield 60, 3) := by decide +kernel
theorem d_Mo_gather_69 : decode prog_8_method_29_code 69 = .ok (.iload 4, 2) := by decide +kernel
theorem d_Mo_gather_71 : decode prog_8_method_29_code 71 = .ok (.iaload, 1) := by decide +kernel
theorem d_Mo_gather_72 : decode prog_8_method_29_code 72 = .ok (.iconst 3, 1) := by decide +kernel
theorem d_Mo_gather_73 : decode prog_8_method_29_code 73 = .ok (.if_icmp .ne 9, 3) := by decide +kernel
theorem d_Mo_gather_76 : decode prog_8_method_29_code 76 = .ok (.iinc 3 (-1), 3) := by decide +kernel
theorem d_Mo_gather_79 : decode prog_8_method_29_code 79 = .ok (.goto (-23), 3) := by decide +kernel
theorem d_Mo_gather_82 : decode prog_8_method_29_code 82 = .ok (.iload_n 1, 1) := by decide +kernel
theorem d_Mo_gather_83 : decode prog_8_method_29_code 83 = .ok (.bipush 12, 2) := by decide +kernel
theorem d_Mo_gather_85 : decode prog_8_method_29_code 85 = .ok (.imul, 1) := by decide +kernel
theorem d_Mo_gather_86 : decode prog_8_method_29_code 86 = .ok (.aload_n 0, 1) := by decide +kernel
theorem d_Mo_gather_87 : decode prog_8_method_29_code 87 = .ok (.getfield 57, 3) := by decide +kernel
theorem d_Mo_gather_90 : decode prog_8_method_29_code 90 = .ok (.iload 4, 2) := by decide +kernel
theorem d_Mo_gather_92 : decode prog_8_method_29_code 92 = .ok (.iaload, 1) := by decide +kernel
theorem d_Mo_gather_93 : decode prog_8_method_29_code 93 = .ok (.iadd, 1) := by decide +kernel
theorem d_Mo_gather_94 : decode prog_8_method_29_code 94 = .ok (.iconst 3, 1) := by decide +kernel
theorem d_Mo_gather_95 : decode prog_8_method_29_code 95 = .ok (.imul, 1) := by decide +kernel
theorem d_Mo_gather_96 : decode prog_8_method_29_code 96 = .ok (.aload_n 0, 1) := by decide +kernel
theorem d_Mo_gather_97 : decode prog_8_method_29_code 97 = .ok (.getfield 60, 3) := by decide +kernel
theorem d_Mo_gather_100 : decode prog_8_method_29_code 100 = .ok (.iload 4, 2) := by decide +kernel
theorem d_Mo_gather_102 : decode prog_8_method_29_code 102 = .ok (.iaload, 1) := by decide +kernel
theorem d_Mo_gather_103 : decode prog_8_method_29_code 103 = .ok (.iadd, 1) := by decide +kernel
theorem d_Mo_gather_104 : decode prog_8_method_29_code 104 = .ok (.istore 5, 2) := by decide +kernel
theorem d_Mo_gather_106 : decode prog_8_method_29_code 106 = .ok (.aload_n 0, 1) := by decide +kernel
theorem d_Mo_gather_107 : decode prog_8_method_29_code 107 = .ok (.getfield 60, 3) := by decide +kernel
theorem d_Mo_gather_110 : decode prog_8_method_29_code 110 = .ok (.iload 4, 2) := by decide +kernel
theorem d_Mo_gather_112 : decode prog_8_method_29_code 112 = .ok (.dup2, 1) := by decide +kernel
theorem d_Mo_gather_113 : decode prog_8_method_29_code 113 = .ok (.iaload, 1) := by decide +kernel
theorem d_Mo_gather_114 : decode prog_8_method_29_code 114 = .ok (.iconst 1, 1) := by decide +kernel
theorem d_Mo_gather_115 : decode prog_8_method_29_code 115 = .ok (.iadd, 1) := by decide +kernel
theorem d_Mo_gather_116 : decode prog_8_method_29_code 116 = .ok (.iastore, 1) := by decide +kernel
theorem d_Mo_gather_117 : decode prog_8_method_29_code 117 = .ok (.aload_n 0, 1) := by decide +kernel
theorem d_Mo_gather_118 : decode prog_8_method_29_code 118 = .ok (.getfield 26, 3) := by decide +kernel
theorem d_Mo_gather_121 : decode prog_8_method_29_code 121 = .ok (.iload 5, 2) := by decide +kernel
theorem d_Mo_gather_123 : decode prog_8_method_29_code 123 = .ok (.iaload, 1) := by decide +kernel
theorem d_Mo_gather_124 : decode prog_8_method_29_code 124 = .ok (.iconst 1, 1) := by decide +kernel
theorem d_Mo_gather_125 : decode prog_8_method_29_code 125 = .ok (.if_icmp .ne (-69), 3) := by decide +kernel
theorem d_Mo_gather_128 : decode prog_8_method_29_code 128 = .ok (.aload_n 0, 1) := by decide +kernel
theorem d_Mo_gather_129 : decode prog_8_method_29_code 129 = .ok (.getfield 54, 3) := by decide +kernel
theorem d_Mo_gather_132 : decode prog_8_method_29_code 132 = .ok (.aload_n 0, 1) := by decide +kernel
theorem d_Mo_gather_133 : decode prog_8_method_29_code 133 = .ok (.getfield 30, 3) := by decide +kernel
theorem d_Mo_gather_136 : decode prog_8_method_29_code 136 = .ok (.iload 5, 2) := by decide +kernel
theorem d_Mo_gather_138 : decode prog_8_method_29_code 138 = .ok (.iaload, 1) := by decide +kernel
theorem d_Mo_gather_139 : decode prog_8_method_29_code 139 = .ok (.iaload, 1) := by decide +kernel
theorem d_Mo_gather_140 : decode prog_8_method_29_code 140 = .ok (.ifCond .lt 6, 3) := by decide +kernel
theorem d_Mo_gather_143 : decode prog_8_method_29_code 143 = .ok (.goto (-87), 3) := by decide +kernel
theorem d_Mo_gather_146 : decode prog_8_method_29_code 146 = .ok (.aload_n 0, 1) := by decide +kernel
theorem d_Mo_gather_147 : decode prog_8_method_29_code 147 = .ok (.getfield 54, 3) := by decide +kernel
theorem d_Mo_gather_150 : decode prog_8_method_29_code 150 = .ok (.aload_n 0, 1) := by decide +kernel
theorem d_Mo_gather_151 : decode prog_8_method_29_code 151 = .ok (.getfield 30, 3) := by decide +kernel
theorem d_Mo_gather_154 : decode prog_8_method_29_code 154 = .ok (.iload 5, 2) := by decide +kernel
theorem d_Mo_gather_156 : decode prog_8_method_29_code 156 = .ok (.iaload, 1) := by decide +kernel
theorem d_Mo_gather_157 : decode prog_8_method_29_code 157 = .ok (.aload_n 0, 1) := by decide +kernel
theorem d_Mo_gather_158 : decode prog_8_method_29_code 158 = .ok (.getfield 63, 3) := by decide +kernel
theorem d_Mo_gather_161 : decode prog_8_method_29_code 161 = .ok (.iastore, 1) := by decide +kernel
theorem d_Mo_gather_162 : decode prog_8_method_29_code 162 = .ok (.aload_n 0, 1) := by decide +kernel
theorem d_Mo_gather_163 : decode prog_8_method_29_code 163 = .ok (.getfield 51, 3) := by decide +kernel
theorem d_Mo_gather_166 : decode prog_8_method_29_code 166 = .ok (.aload_n 0, 1) := by decide +kernel
theorem d_Mo_gather_167 : decode prog_8_method_29_code 167 = .ok (.getfield 63, 3) := by decide +kernel
theorem d_Mo_gather_170 : decode prog_8_method_29_code 170 = .ok (.aload_n 0, 1) := by decide +kernel
theorem d_Mo_gather_171 : decode prog_8_method_29_code 171 = .ok (.getfield 30, 3) := by decide +kernel
theorem d_Mo_gather_174 : decode prog_8_method_29_code 174 = .ok (.iload 5, 2) := by decide +kernel
theorem d_Mo_gather_176 : decode prog_8_method_29_code 176 = .ok (.iaload, 1) := by decide +kernel
theorem d_Mo_gather_177 : decode prog_8_method_29_code 177 = .ok (.iastore, 1) := by decide +kernel
theorem d_Mo_gather_178 : decode prog_8_method_29_code 178 = .ok (.aload_n 0, 1) := by decide +kernel
theorem d_Mo_gather_179 : decode prog_8_method_29_code 179 = .ok (.dup, 1) := by decide +kernel
theorem d_Mo_gather_180 : decode prog_8_method_29_code 180 = .ok (.getfield 63, 3) := by decide +kernel
theorem d_Mo_gather_183 : decode prog_8_method_29_code 183 = .ok (.iconst 1, 1) := by decide +kernel
theorem d_Mo_gather_184 : decode prog_8_method_29_code 184 = .ok (.iadd, 1) := by decide +kernel
theorem d_Mo_gather_185 : decode prog_8_method_29_code 185 = .ok (.putfield 63, 3) := by decide +kernel
theorem d_Mo_gather_188 : decode prog_8_method_29_code 188 = .ok (.aload_n 0, 1) := by decide +kernel
theorem d_Mo_gather_189 : decode prog_8_method_29_code 189 = .ok (.getfield 57, 3) := by decide +kernel
theorem d_Mo_gather_192 : decode prog_8_method_29_code 192 = .ok (.iload_n 3, 1) := by decide +kernel
theorem d_Mo_gather_193 : decode prog_8_method_29_code 193 = .ok (.aload_n 0, 1) := by decide +kernel
theorem d_Mo_gather_194 : decode prog_8_method_29_code 194 = .ok (.getfield 30, 3) := by decide +kernel
theorem d_Mo_gather_197 : decode prog_8_method_29_code 197 = .ok (.iload 5, 2) := by decide +kernel
theorem d_Mo_gather_199 : decode prog_8_method_29_code 199 = .ok (.iaload, 1) := by decide +kernel
theorem d_Mo_gather_200 : decode prog_8_method_29_code 200 = .ok (.iastore, 1) := by decide +kernel
theorem d_Mo_gather_201 : decode prog_8_method_29_code 201 = .ok (.aload_n 0, 1) := by decide +kernel
theorem d_Mo_gather_202 : decode prog_8_method_29_code 202 = .ok (.getfield 60, 3) := by decide +kernel
theorem d_Mo_gather_205 : decode prog_8_method_29_code 205 = .ok (.iload_n 3, 1) := by decide +kernel
theorem d_Mo_gather_206 : decode prog_8_method_29_code 206 = .ok (.iconst 0, 1) := by decide +kernel
theorem d_Mo_gather_207 : decode prog_8_method_29_code 207 = .ok (.iastore, 1) := by decide +kernel
theorem d_Mo_gather_208 : decode prog_8_method_29_code 208 = .ok (.iinc 3 1, 3) := by decide +kernel
theorem d_Mo_gather_211 : decode prog_8_method_29_code 211 = .ok (.goto (-155), 3) := by decide +kernel
theorem d_Mo_gather_214 : decode prog_8_method_29_code 214 = .ok (.return_, 1) := by decide +kernel
theorem d_Mo_pass_0 : decode prog_8_method_30_code 0 = .ok (.aload_n 0, 1) := by decide +kernel
theorem d_Mo_pass_1 : decode prog_8_method_30_code 1 = .ok (.iload_n 1, 1) := by decide +kernel
theorem d_Mo_pass_2 : decode prog_8_method_30_code 2 = .ok (.iload_n 2, 1) := by decide +kernel
theorem d_Mo_pass_3 : decode prog_8_method_30_code 3 = .ok (.iconst 4, 1) := by decide +kernel
theorem d_Mo_pass_4 : decode prog_8_method_30_code 4 = .ok (.invokevirtual 111, 3) := by decide +kernel
theorem d_Mo_pass_7 : decode prog_8_method_30_code 7 = .ok (.istore 5, 2) := by decide +kernel
theorem d_Mo_pass_9 : decode prog_8_method_30_code 9 = .ok (.iload 5, 2) := by decide +kernel
theorem d_Mo_pass_11 : decode prog_8_method_30_code 11 = .ok (.ifCond .eq 10, 3) := by decide +kernel
theorem d_Mo_pass_14 : decode prog_8_method_30_code 14 = .ok (.aload_n 0, 1) := by decide +kernel
theorem d_Mo_pass_15 : decode prog_8_method_30_code 15 = .ok (.iload 5, 2) := by decide +kernel
theorem d_Mo_pass_17 : decode prog_8_method_30_code 17 = .ok (.invokevirtual 84, 3) := by decide +kernel
theorem d_Mo_pass_20 : decode prog_8_method_30_code 20 = .ok (.ireturn, 1) := by decide +kernel
theorem d_Mo_pass_21 : decode prog_8_method_30_code 21 = .ok (.aload_n 0, 1) := by decide +kernel
theorem d_Mo_pass_22 : decode prog_8_method_30_code 22 = .ok (.iload_n 3, 1) := by decide +kernel
theorem d_Mo_pass_23 : decode prog_8_method_30_code 23 = .ok (.iconst 3, 1) := by decide +kernel
theorem d_Mo_pass_24 : decode prog_8_method_30_code 24 = .ok (.invokevirtual 66, 3) := by decide +kernel
theorem d_Mo_pass_27 : decode prog_8_method_30_code 27 = .ok (.ifCond .eq 9, 3) := by decide +kernel
theorem d_Mo_pass_30 : decode prog_8_method_30_code 30 = .ok (.aload_n 0, 1) := by decide +kernel
theorem d_Mo_pass_31 : decode prog_8_method_30_code 31 = .ok (.iconst 5, 1) := by decide +kernel
theorem d_Mo_pass_32 : decode prog_8_method_30_code 32 = .ok (.invokevirtual 84, 3) := by decide +kernel
theorem d_Mo_pass_35 : decode prog_8_method_30_code 35 = .ok (.ireturn, 1) := by decide +kernel
theorem d_Mo_pass_36 : decode prog_8_method_30_code 36 = .ok (.aload_n 0, 1) := by decide +kernel
theorem d_Mo_pass_37 : decode prog_8_method_30_code 37 = .ok (.iload_n 1, 1) := by decide +kernel
theorem d_Mo_pass_38 : decode prog_8_method_30_code 38 = .ok (.iload 4, 2) := by decide +kernel
theorem d_Mo_pass_40 : decode prog_8_method_30_code 40 = .ok (.invokevirtual 100, 3) := by decide +kernel
theorem d_Mo_pass_43 : decode prog_8_method_30_code 43 = .ok (.ifCond .eq 9, 3) := by decide +kernel
theorem d_Mo_pass_46 : decode prog_8_method_30_code 46 = .ok (.aload_n 0, 1) := by decide +kernel
theorem d_Mo_pass_47 : decode prog_8_method_30_code 47 = .ok (.iconst 3, 1) := by decide +kernel
theorem d_Mo_pass_48 : decode prog_8_method_30_code 48 = .ok (.invokevirtual 84, 3) := by decide +kernel
theorem d_Mo_pass_51 : decode prog_8_method_30_code 51 = .ok (.ireturn, 1) := by decide +kernel
theorem d_Mo_pass_52 : decode prog_8_method_30_code 52 = .ok (.aload_n 0, 1) := by decide +kernel
theorem d_Mo_pass_53 : decode prog_8_method_30_code 53 = .ok (.getfield 33, 3) := by decide +kernel
theorem d_Mo_pass_56 : decode prog_8_method_30_code 56 = .ok (.iload_n 1, 1) := by decide +kernel
theorem d_Mo_pass_57 : decode prog_8_method_30_code 57 = .ok (.bipush 8, 2) := by decide +kernel
theorem d_Mo_pass_59 : decode prog_8_method_30_code 59 = .ok (.imul, 1) := by decide +kernel
theorem d_Mo_pass_60 : decode prog_8_method_30_code 60 = .ok (.iload_n 2, 1) := by decide +kernel
theorem d_Mo_pass_61 : decode prog_8_method_30_code 61 = .ok (.iadd, 1) := by decide +kernel
theorem d_Mo_pass_62 : decode prog_8_method_30_code 62 = .ok (.iaload, 1) := by decide +kernel
theorem d_Mo_pass_63 : decode prog_8_method_30_code 63 = .ok (.istore 6, 2) := by decide +kernel
theorem d_Mo_pass_65 : decode prog_8_method_30_code 65 = .ok (.aload_n 0, 1) := by decide +kernel
theorem d_Mo_pass_66 : decode prog_8_method_30_code 66 = .ok (.iload 6, 2) := by decide +kernel
theorem d_Mo_pass_68 : decode prog_8_method_30_code 68 = .ok (.invokevirtual 70, 3) := by decide +kernel
theorem d_Mo_pass_71 : decode prog_8_method_30_code 71 = .ok (.istore 7, 2) := by decide +kernel
theorem d_Mo_pass_73 : decode prog_8_method_30_code 73 = .ok (.aload_n 0, 1) := by decide +kernel
theorem d_Mo_pass_74 : decode prog_8_method_30_code 74 = .ok (.iload_n 1, 1) := by decide +kernel
theorem d_Mo_pass_75 : decode prog_8_method_30_code 75 = .ok (.iload 4, 2) := by decide +kernel
theorem d_Mo_pass_77 : decode prog_8_method_30_code 77 = .ok (.invokevirtual 119, 3) := by decide +kernel
theorem d_Mo_pass_80 : decode prog_8_method_30_code 80 = .ok (.aload_n 0, 1) := by decide +kernel
theorem d_Mo_pass_81 : decode prog_8_method_30_code 81 = .ok (.iload 7, 2) := by decide +kernel
theorem d_Mo_pass_83 : decode prog_8_method_30_code 83 = .ok (.invokevirtual 94, 3) := by decide +kernel
theorem d_Mo_pass_86 : decode prog_8_method_30_code 86 = .ok (.aload_n 0, 1) := by decide +kernel
theorem d_Mo_pass_87 : decode prog_8_method_30_code 87 = .ok (.getfield 63, 3) := by decide +kernel
theorem d_Mo_pass_90 : decode prog_8_method_30_code 90 = .ok (.iadd, 1) := by decide +kernel
theorem d_Mo_pass_91 : decode prog_8_method_30_code 91 = .ok (.bipush 12, 2) := by decide +kernel
theorem d_Mo_pass_93 : decode prog_8_method_30_code 93 = .ok (.if_icmp .le 10, 3) := by decide +kernel
theorem d_Mo_pass_96 : decode prog_8_method_30_code 96 = .ok (.aload_n 0, 1) := by decide +kernel
theorem d_Mo_pass_97 : decode prog_8_method_30_code 97 = .ok (.bipush 6, 2) := by decide +kernel
theorem d_Mo_pass_99 : decode prog_8_method_30_code 99 = .ok (.invokevirtual 84, 3) := by decide +kernel
theorem d_Mo_pass_102 : decode prog_8_method_30_code 102 = .ok (.ireturn, 1) := by decide +kernel
theorem d_Mo_pass_103 : decode prog_8_method_30_code 103 = .ok (.iconst 0, 1) := by decide +kernel
theorem d_Mo_pass_104 : decode prog_8_method_30_code 104 = .ok (.istore 8, 2) := by decide +kernel
theorem d_Mo_pass_106 : decode prog_8_method_30_code 106 = .ok (.iload 8, 2) := by decide +kernel
theorem d_Mo_pass_108 : decode prog_8_method_30_code 108 = .ok (.aload_n 0, 1) := by decide +kernel
theorem d_Mo_pass_109 : decode prog_8_method_30_code 109 = .ok (.getfield 63, 3) := by decide +kernel
theorem d_Mo_pass_112 : decode prog_8_method_30_code 112 = .ok (.if_icmp .ge 27, 3) := by decide +kernel
theorem d_Mo_pass_115 : decode prog_8_method_30_code 115 = .ok (.aload_n 0, 1) := by decide +kernel
theorem d_Mo_pass_116 : decode prog_8_method_30_code 116 = .ok (.getfield 54, 3) := by decide +kernel
theorem d_Mo_pass_119 : decode prog_8_method_30_code 119 = .ok (.aload_n 0, 1) := by decide +kernel
theorem d_Mo_pass_120 : decode prog_8_method_30_code 120 = .ok (.getfield 51, 3) := by decide +kernel
theorem d_Mo_pass_123 : decode prog_8_method_30_code 123 = .ok (.iload 8, 2) := by decide +kernel
theorem d_Mo_pass_125 : decode prog_8_method_30_code 125 = .ok (.iaload, 1) := by decide +kernel
theorem d_Mo_pass_126 : decode prog_8_method_30_code 126 = .ok (.aload_n 0, 1) := by decide +kernel
theorem d_Mo_pass_127 : decode prog_8_method_30_code 127 = .ok (.iload 7, 2) := by decide +kernel
theorem d_Mo_pass_129 : decode prog_8_method_30_code 129 = .ok (.invokevirtual 97, 3) := by decide +kernel
theorem d_Mo_pass_132 : decode prog_8_method_30_code 132 = .ok (.iastore, 1) := by decide +kernel
theorem d_Mo_pass_133 : decode prog_8_method_30_code 133 = .ok (.iinc 8 1, 3) := by decide +kernel
theorem d_Mo_pass_136 : decode prog_8_method_30_code 136 = .ok (.goto (-30), 3) := by decide +kernel
theorem d_Mo_pass_139 : decode prog_8_method_30_code 139 = .ok (.iconst 0, 1) := by decide +kernel
theorem d_Mo_pass_140 : decode prog_8_method_30_code 140 = .ok (.istore 8, 2) := by decide +kernel
theorem d_Mo_pass_142 : decode prog_8_method_30_code 142 = .ok (.iload 8, 2) := by decide +kernel
theorem d_Mo_pass_144 : decode prog_8_method_30_code 144 = .ok (.aload_n 0, 1) := by decide +kernel
theorem d_Mo_pass_145 : decode prog_8_method_30_code 145 = .ok (.getfield 63, 3) := by decide +kernel
theorem d_Mo_pass_148 : decode prog_8_method_30_code 148 = .ok (.if_icmp .ge 114, 3) := by decide +kernel
theorem d_Mo_pass_151 : decode prog_8_method_30_code 151 = .ok (.iconst 0, 1) := by decide +kernel
theorem d_Mo_pass_152 : decode prog_8_method_30_code 152 = .ok (.istore 9, 2) := by decide +kernel
theorem d_Mo_pass_154 : decode prog_8_method_30_code 154 = .ok (.iload 9, 2) := by decide +kernel
theorem d_Mo_pass_156 : decode prog_8_method_30_code 156 = .ok (.iconst 3, 1) := by decide +kernel
theorem d_Mo_pass_157 : decode prog_8_method_30_code 157 = .ok (.if_icmp .ge 99, 3) := by decide +kernel
theorem d_Mo_pass_160 : decode prog_8_method_30_code 160 = .ok (.iload_n 1, 1) := by decide +kernel
theorem d_Mo_pass_161 : decode prog_8_method_30_code 161 = .ok (.bipush 12, 2) := by decide +kernel
theorem d_Mo_pass_163 : decode prog_8_method_30_code 163 = .ok (.imul, 1) := by decide +kernel
theorem d_Mo_pass_164 : decode prog_8_method_30_code 164 = .ok (.aload_n 0, 1) := by decide +kernel
theorem d_Mo_pass_165 : decode prog_8_method_30_code 165 = .ok (.getfield 51, 3) := by decide +kernel
theorem d_Mo_pass_168 : decode prog_8_method_30_code 168 = .ok (.iload 8, 2) := by decide +kernel
theorem d_Mo_pass_170 : decode prog_8_method_30_code 170 = .ok (.iaload, 1) := by decide +kernel
theorem d_Mo_pass_171 : decode prog_8_method_30_code 171 = .ok (.iadd, 1) := by decide +kernel
theorem d_Mo_pass_172 : decode prog_8_method_30_code 172 = .ok (.iconst 3, 1) := by decide +kernel
theorem d_Mo_pass_173 : decode prog_8_method_30_code 173 = .ok (.imul, 1) := by decide +kernel
theorem d_Mo_pass_174 : decode prog_8_method_30_code 174 = .ok (.iload 9, 2) := by decide +kernel
theorem d_Mo_pass_176 : decode prog_8_method_30_code 176 = .ok (.iadd, 1) := by decide +kernel
theorem d_Mo_pass_177 : decode prog_8_method_30_code 177 = .ok (.istore 10, 2) := by decide +kernel
theorem d_Mo_pass_179 : decode prog_8_method_30_code 179 = .ok (.iload 7, 2) := by decide +kernel
theorem d_Mo_pass_181 : decode prog_8_method_30_code 181 = .ok (.bipush 12, 2) := by decide +kernel
theorem d_Mo_pass_183 : decode prog_8_method_30_code 183 = .ok (.imul, 1) := by decide +kernel
theorem d_Mo_pass_184 : decode prog_8_method_30_code 184 = .ok (.aload_n 0, 1) := by decide +kernel
theorem d_Mo_pass_185 : decode prog_8_method_30_code 185 = .ok (.getfield 54, 3) := by decide +kernel
theorem d_Mo_pass_188 : decode prog_8_method_30_code 188 = .ok (.aload_n 0, 1) := by decide +kernel
theorem d_Mo_pass_189 : decode prog_8_method_30_code 189 = .ok (.getfield 51, 3) := by decide +kernel
theorem d_Mo_pass_192 : decode prog_8_method_30_code 192 = .ok (.iload 8, 2) := by decide +kernel
theorem d_Mo_pass_194 : decode prog_8_method_30_code 194 = .ok (.iaload, 1) := by decide +kernel
theorem d_Mo_pass_195 : decode prog_8_method_30_code 195 = .ok (.iaload, 1) := by decide +kernel
theorem d_Mo_pass_196 : decode prog_8_method_30_code 196 = .ok (.iadd, 1) := by decide +kernel
theorem d_Mo_pass_197 : decode prog_8_method_30_code 197 = .ok (.iconst 3, 1) := by decide +kernel
theorem d_Mo_pass_198 : decode prog_8_method_30_code 198 = .ok (.imul, 1) := by decide +kernel
theorem d_Mo_pass_199 : decode prog_8_method_30_code 199 = .ok (.iload 9, 2) := by decide +kernel
theorem d_Mo_pass_201 : decode prog_8_method_30_code 201 = .ok (.iadd, 1) := by decide +kernel
theorem d_Mo_pass_202 : decode prog_8_method_30_code 202 = .ok (.istore 11, 2) := by decide +kernel
theorem d_Mo_pass_204 : decode prog_8_method_30_code 204 = .ok (.aload_n 0, 1) := by decide +kernel
theorem d_Mo_pass_205 : decode prog_8_method_30_code 205 = .ok (.iload 11, 2) := by decide +kernel
theorem d_Mo_pass_207 : decode prog_8_method_30_code 207 = .ok (.aload_n 0, 1) := by decide +kernel
theorem d_Mo_pass_208 : decode prog_8_method_30_code 208 = .ok (.getfield 26, 3) := by decide +kernel
theorem d_Mo_pass_211 : decode prog_8_method_30_code 211 = .ok (.iload 10, 2) := by decide +kernel
theorem d_Mo_pass_213 : decode prog_8_method_30_code 213 = .ok (.iaload, 1) := by decide +kernel
theorem d_Mo_pass_214 : decode prog_8_method_30_code 214 = .ok (.aload_n 0, 1) := by decide +kernel
theorem d_Mo_pass_215 : decode prog_8_method_30_code 215 = .ok (.getfield 26, 3) := by decide +kernel
theorem d_Mo_pass_218 : decode prog_8_method_30_code 218 = .ok (.iload 10, 2) := by decide +kernel
theorem d_Mo_pass_220 : decode prog_8_method_30_code 220 = .ok (.iaload, 1) := by decide +kernel
theorem d_Mo_pass_221 : decode prog_8_method_30_code 221 = .ok (.iconst 1, 1) := by decide +kernel
theorem d_Mo_pass_222 : decode prog_8_method_30_code 222 = .ok (.if_icmp .ne 18, 3) := by decide +kernel
theorem d_Mo_pass_225 : decode prog_8_method_30_code 225 = .ok (.aload_n 0, 1) := by decide +kernel
theorem d_Mo_pass_226 : decode prog_8_method_30_code 226 = .ok (.getfield 54, 3) := by decide +kernel
theorem d_Mo_pass_229 : decode prog_8_method_30_code 229 = .ok (.aload_n 0, 1) := by decide +kernel
theorem d_Mo_pass_230 : decode prog_8_method_30_code 230 = .ok (.getfield 30, 3) := by decide +kernel
theorem d_Mo_pass_233 : decode prog_8_method_30_code 233 = .ok (.iload 10, 2) := by decide +kernel
theorem d_Mo_pass_235 : decode prog_8_method_30_code 235 = .ok (.iaload, 1) := by decide +kernel
theorem d_Mo_pass_236 : decode prog_8_method_30_code 236 = .ok (.iaload, 1) := by decide +kernel
theorem d_Mo_pass_237 : decode prog_8_method_30_code 237 = .ok (.goto 10, 3) := by decide +kernel
theorem d_Mo_pass_240 : decode prog_8_method_30_code 240 = .ok (.aload_n 0, 1) := by decide +kernel
theorem d_Mo_pass_241 : decode prog_8_method_30_code 241 = .ok (.getfield 30, 3) := by decide +kernel
theorem d_Mo_pass_244 : decode prog_8_method_30_code 244 = .ok (.iload 10, 2) := by decide +kernel
theorem d_Mo_pass_246 : decode prog_8_method_30_code 246 = .ok (.iaload, 1) := by decide +kernel
theorem d_Mo_pass_247 : decode prog_8_method_30_code 247 = .ok (.invokevirtual 90, 3) := by decide +kernel
theorem d_Mo_pass_250 : decode prog_8_method_30_code 250 = .ok (.iinc 9 1, 3) := by decide +kernel
theorem d_Mo_pass_253 : decode prog_8_method_30_code 253 = .ok (.goto (-99), 3) := by decide +kernel
theorem d_Mo_pass_256 : decode prog_8_method_30_code 256 = .ok (.iinc 8 1, 3) := by decide +kernel
theorem d_Mo_pass_259 : decode prog_8_method_30_code 259 = .ok (.goto (-117), 3) := by decide +kernel
theorem d_Mo_pass_262 : decode prog_8_method_30_code 262 = .ok (.aload_n 0, 1) := by decide +kernel
theorem d_Mo_pass_263 : decode prog_8_method_30_code 263 = .ok (.aload_n 0, 1) := by decide +kernel
theorem d_Mo_pass_264 : decode prog_8_method_30_code 264 = .ok (.getfield 36, 3) := by decide +kernel
theorem d_Mo_pass_267 : decode prog_8_method_30_code 267 = .ok (.iload 6, 2) := by decide +kernel
theorem d_Mo_pass_269 : decode prog_8_method_30_code 269 = .ok (.iaload, 1) := by decide +kernel
theorem d_Mo_pass_270 : decode prog_8_method_30_code 270 = .ok (.iconst 3, 1) := by decide +kernel
theorem d_Mo_pass_271 : decode prog_8_method_30_code 271 = .ok (.imul, 1) := by decide +kernel
theorem d_Mo_pass_272 : decode prog_8_method_30_code 272 = .ok (.iload_n 3, 1) := by decide +kernel
theorem d_Mo_pass_273 : decode prog_8_method_30_code 273 = .ok (.iadd, 1) := by decide +kernel
theorem d_Mo_pass_274 : decode prog_8_method_30_code 274 = .ok (.iconst 1, 1) := by decide +kernel
theorem d_Mo_pass_275 : decode prog_8_method_30_code 275 = .ok (.aload_n 0, 1) := by decide +kernel
theorem d_Mo_pass_276 : decode prog_8_method_30_code 276 = .ok (.getfield 54, 3) := by decide +kernel
theorem d_Mo_pass_279 : decode prog_8_method_30_code 279 = .ok (.iload 4, 2) := by decide +kernel
theorem d_Mo_pass_281 : decode prog_8_method_30_code 281 = .ok (.iaload, 1) := by decide +kernel
theorem d_Mo_pass_282 : decode prog_8_method_30_code 282 = .ok (.invokevirtual 90, 3) := by decide +kernel
theorem d_Mo_pass_285 : decode prog_8_method_30_code 285 = .ok (.aload_n 0, 1) := by decide +kernel
theorem d_Mo_pass_286 : decode prog_8_method_30_code 286 = .ok (.iload 6, 2) := by decide +kernel
theorem d_Mo_pass_288 : decode prog_8_method_30_code 288 = .ok (.invokevirtual 115, 3) := by decide +kernel
theorem d_Mo_pass_291 : decode prog_8_method_30_code 291 = .ok (.aload_n 0, 1) := by decide +kernel
theorem d_Mo_pass_292 : decode prog_8_method_30_code 292 = .ok (.aload_n 0, 1) := by decide +kernel
theorem d_Mo_pass_293 : decode prog_8_method_30_code 293 = .ok (.getfield 63, 3) := by decide +kernel
theorem d_Mo_pass_296 : decode prog_8_method_30_code 296 = .ok (.invokevirtual 87, 3) := by decide +kernel
theorem d_Mo_pass_299 : decode prog_8_method_30_code 299 = .ok (.ireturn, 1) := by decide +kernel
theorem d_Mo_take_0 : decode prog_8_method_31_code 0 = .ok (.aload_n 0, 1) := by decide +kernel
theorem d_Mo_take_1 : decode prog_8_method_31_code 1 = .ok (.iload_n 1, 1) := by decide +kernel
theorem d_Mo_take_2 : decode prog_8_method_31_code 2 = .ok (.iload_n 2, 1) := by decide +kernel
theorem d_Mo_take_3 : decode prog_8_method_31_code 3 = .ok (.bipush 8, 2) := by decide +kernel
theorem d_Mo_take_5 : decode prog_8_method_31_code 5 = .ok (.invokevirtual 111, 3) := by decide +kernel
theorem d_Mo_take_8 : decode prog_8_method_31_code 8 = .ok (.istore 5, 2) := by decide +kernel
theorem d_Mo_take_10 : decode prog_8_method_31_code 10 = .ok (.iload 5, 2) := by decide +kernel
theorem d_Mo_take_12 : decode prog_8_method_31_code 12 = .ok (.ifCond .eq 10, 3) := by decide +kernel
theorem d_Mo_take_15 : decode prog_8_method_31_code 15 = .ok (.aload_n 0, 1) := by decide +kernel
theorem d_Mo_take_16 : decode prog_8_method_31_code 16 = .ok (.iload 5, 2) := by decide +kernel
theorem d_Mo_take_18 : decode prog_8_method_31_code 18 = .ok (.invokevirtual 84, 3) := by decide +kernel
theorem d_Mo_take_21 : decode prog_8_method_31_code 21 = .ok (.ireturn, 1) := by decide +kernel
theorem d_Mo_take_22 : decode prog_8_method_31_code 22 = .ok (.aload_n 0, 1) := by decide +kernel
theorem d_Mo_take_23 : decode prog_8_method_31_code 23 = .ok (.iload_n 3, 1) := by decide +kernel
theorem d_Mo_take_24 : decode prog_8_method_31_code 24 = .ok (.iconst 3, 1) := by decide +kernel
theorem d_Mo_take_25 : decode prog_8_method_31_code 25 = .ok (.invokevirtual 66, 3) := by decide +kernel
theorem d_Mo_take_28 : decode prog_8_method_31_code 28 = .ok (.ifCond .ne 14, 3) := by decide +kernel
theorem d_Mo_take_31 : decode prog_8_method_31_code 31 = .ok (.aload_n 0, 1) := by decide +kernel
theorem d_Mo_take_32 : decode prog_8_method_31_code 32 = .ok (.iload 4, 2) := by decide +kernel
theorem d_Mo_take_34 : decode prog_8_method_31_code 34 = .ok (.bipush 8, 2) := by decide +kernel
theorem d_Mo_take_36 : decode prog_8_method_31_code 36 = .ok (.invokevirtual 66, 3) := by decide +kernel
theorem d_Mo_take_39 : decode prog_8_method_31_code 39 = .ok (.ifCond .eq 9, 3) := by decide +kernel
theorem d_Mo_take_42 : decode prog_8_method_31_code 42 = .ok (.aload_n 0, 1) := by decide +kernel
theorem d_Mo_take_43 : decode prog_8_method_31_code 43 = .ok (.iconst 5, 1) := by decide +kernel
theorem d_Mo_take_44 : decode prog_8_method_31_code 44 = .ok (.invokevirtual 84, 3) := by decide +kernel
theorem d_Mo_take_47 : decode prog_8_method_31_code 47 = .ok (.ireturn, 1) := by decide +kernel
theorem d_Mo_take_48 : decode prog_8_method_31_code 48 = .ok (.aload_n 0, 1) := by decide +kernel
theorem d_Mo_take_49 : decode prog_8_method_31_code 49 = .ok (.getfield 33, 3) := by decide +kernel
theorem d_Mo_take_52 : decode prog_8_method_31_code 52 = .ok (.iload_n 1, 1) := by decide +kernel
theorem d_Mo_take_53 : decode prog_8_method_31_code 53 = .ok (.bipush 8, 2) := by decide +kernel
theorem d_Mo_take_55 : decode prog_8_method_31_code 55 = .ok (.imul, 1) := by decide +kernel
theorem d_Mo_take_56 : decode prog_8_method_31_code 56 = .ok (.iload_n 2, 1) := by decide +kernel
theorem d_Mo_take_57 : decode prog_8_method_31_code 57 = .ok (.iadd, 1) := by decide +kernel
theorem d_Mo_take_58 : decode prog_8_method_31_code 58 = .ok (.iaload, 1) := by decide +kernel
theorem d_Mo_take_59 : decode prog_8_method_31_code 59 = .ok (.istore 6, 2) := by decide +kernel
theorem d_Mo_take_61 : decode prog_8_method_31_code 61 = .ok (.aload_n 0, 1) := by decide +kernel
theorem d_Mo_take_62 : decode prog_8_method_31_code 62 = .ok (.getfield 36, 3) := by decide +kernel
theorem d_Mo_take_65 : decode prog_8_method_31_code 65 = .ok (.iload 6, 2) := by decide +kernel
theorem d_Mo_take_67 : decode prog_8_method_31_code 67 = .ok (.iaload, 1) := by decide +kernel
theorem d_Mo_take_68 : decode prog_8_method_31_code 68 = .ok (.iconst 3, 1) := by decide +kernel
theorem d_Mo_take_69 : decode prog_8_method_31_code 69 = .ok (.imul, 1) := by decide +kernel
theorem d_Mo_take_70 : decode prog_8_method_31_code 70 = .ok (.iload_n 3, 1) := by decide +kernel
theorem d_Mo_take_71 : decode prog_8_method_31_code 71 = .ok (.iadd, 1) := by decide +kernel
theorem d_Mo_take_72 : decode prog_8_method_31_code 72 = .ok (.istore 7, 2) := by decide +kernel
theorem d_Mo_take_74 : decode prog_8_method_31_code 74 = .ok (.aload_n 0, 1) := by decide +kernel
theorem d_Mo_take_75 : decode prog_8_method_31_code 75 = .ok (.getfield 26, 3) := by decide +kernel
theorem d_Mo_take_78 : decode prog_8_method_31_code 78 = .ok (.iload 7, 2) := by decide +kernel
theorem d_Mo_take_80 : decode prog_8_method_31_code 80 = .ok (.iaload, 1) := by decide +kernel
theorem d_Mo_take_81 : decode prog_8_method_31_code 81 = .ok (.iconst 2, 1) := by decide +kernel
theorem d_Mo_take_82 : decode prog_8_method_31_code 82 = .ok (.if_icmp .eq 10, 3) := by decide +kernel
theorem d_Mo_take_85 : decode prog_8_method_31_code 85 = .ok (.aload_n 0, 1) := by decide +kernel
theorem d_Mo_take_86 : decode prog_8_method_31_code 86 = .ok (.bipush 6, 2) := by decide +kernel
theorem d_Mo_take_88 : decode prog_8_method_31_code 88 = .ok (.invokevirtual 84, 3) := by decide +kernel
theorem d_Mo_take_91 : decode prog_8_method_31_code 91 = .ok (.ireturn, 1) := by decide +kernel
theorem d_Mo_take_92 : decode prog_8_method_31_code 92 = .ok (.aload_n 0, 1) := by decide +kernel
theorem d_Mo_take_93 : decode prog_8_method_31_code 93 = .ok (.getfield 33, 3) := by decide +kernel
theorem d_Mo_take_96 : decode prog_8_method_31_code 96 = .ok (.iload_n 1, 1) := by decide +kernel
theorem d_Mo_take_97 : decode prog_8_method_31_code 97 = .ok (.bipush 8, 2) := by decide +kernel
theorem d_Mo_take_99 : decode prog_8_method_31_code 99 = .ok (.imul, 1) := by decide +kernel
theorem d_Mo_take_100 : decode prog_8_method_31_code 100 = .ok (.iload 4, 2) := by decide +kernel
theorem d_Mo_take_102 : decode prog_8_method_31_code 102 = .ok (.iadd, 1) := by decide +kernel
theorem d_Mo_take_103 : decode prog_8_method_31_code 103 = .ok (.iaload, 1) := by decide +kernel
theorem d_Mo_take_104 : decode prog_8_method_31_code 104 = .ok (.ifCond .lt 7, 3) := by decide +kernel
theorem d_Mo_take_107 : decode prog_8_method_31_code 107 = .ok (.iconst 1, 1) := by decide +kernel
theorem d_Mo_take_108 : decode prog_8_method_31_code 108 = .ok (.goto 4, 3) := by decide +kernel
theorem d_Mo_take_111 : decode prog_8_method_31_code 111 = .ok (.iconst 0, 1) := by decide +kernel
theorem d_Mo_take_112 : decode prog_8_method_31_code 112 = .ok (.istore 8, 2) := by decide +kernel
theorem d_Mo_take_114 : decode prog_8_method_31_code 114 = .ok (.aload_n 0, 1) := by decide +kernel
theorem d_Mo_take_115 : decode prog_8_method_31_code 115 = .ok (.iload 6, 2) := by decide +kernel
theorem d_Mo_take_117 : decode prog_8_method_31_code 117 = .ok (.invokevirtual 115, 3) := by decide +kernel
theorem d_Mo_take_120 : decode prog_8_method_31_code 120 = .ok (.aload_n 0, 1) := by decide +kernel
theorem d_Mo_take_121 : decode prog_8_method_31_code 121 = .ok (.getfield 33, 3) := by decide +kernel
theorem d_Mo_take_124 : decode prog_8_method_31_code 124 = .ok (.iload_n 1, 1) := by decide +kernel
theorem d_Mo_take_125 : decode prog_8_method_31_code 125 = .ok (.bipush 8, 2) := by decide +kernel
theorem d_Mo_take_127 : decode prog_8_method_31_code 127 = .ok (.imul, 1) := by decide +kernel
theorem d_Mo_take_128 : decode prog_8_method_31_code 128 = .ok (.iload 4, 2) := by decide +kernel
theorem d_Mo_take_130 : decode prog_8_method_31_code 130 = .ok (.iadd, 1) := by decide +kernel
theorem d_Mo_take_131 : decode prog_8_method_31_code 131 = .ok (.aload_n 0, 1) := by decide +kernel
theorem d_Mo_take_132 : decode prog_8_method_31_code 132 = .ok (.getfield 30, 3) := by decide +kernel
theorem d_Mo_take_135 : decode prog_8_method_31_code 135 = .ok (.iload 7, 2) := by decide +kernel
theorem d_Mo_take_137 : decode prog_8_method_31_code 137 = .ok (.iaload, 1) := by decide +kernel
theorem d_Mo_take_138 : decode prog_8_method_31_code 138 = .ok (.iastore, 1) := by decide +kernel
theorem d_Mo_take_139 : decode prog_8_method_31_code 139 = .ok (.aload_n 0, 1) := by decide +kernel
theorem d_Mo_take_140 : decode prog_8_method_31_code 140 = .ok (.iload 8, 2) := by decide +kernel
theorem d_Mo_take_142 : decode prog_8_method_31_code 142 = .ok (.invokevirtual 87, 3) := by decide +kernel
theorem d_Mo_take_145 : decode prog_8_method_31_code 145 = .ok (.ireturn, 1) := by decide +kernel
theorem d_Mo_free_0 : decode prog_8_method_32_code 0 = .ok (.aload_n 0, 1) := by decide +kernel
theorem d_Mo_free_1 : decode prog_8_method_32_code 1 = .ok (.iload_n 1, 1) := by decide +kernel
theorem d_Mo_free_2 : decode prog_8_method_32_code 2 = .ok (.iload_n 2, 1) := by decide +kernel
theorem d_Mo_free_3 : decode prog_8_method_32_code 3 = .ok (.bipush 16, 2) := by decide +kernel
theorem d_Mo_free_5 : decode prog_8_method_32_code 5 = .ok (.invokevirtual 111, 3) := by decide +kernel
theorem d_Mo_free_8 : decode prog_8_method_32_code 8 = .ok (.istore_n 3, 1) := by decide +kernel
theorem d_Mo_free_9 : decode prog_8_method_32_code 9 = .ok (.iload_n 3, 1) := by decide +kernel
theorem d_Mo_free_10 : decode prog_8_method_32_code 10 = .ok (.ifCond .eq 9, 3) := by decide +kernel
theorem d_Mo_free_13 : decode prog_8_method_32_code 13 = .ok (.aload_n 0, 1) := by decide +kernel
theorem d_Mo_free_14 : decode prog_8_method_32_code 14 = .ok (.iload_n 3, 1) := by decide +kernel
theorem d_Mo_free_15 : decode prog_8_method_32_code 15 = .ok (.invokevirtual 84, 3) := by decide +kernel
theorem d_Mo_free_18 : decode prog_8_method_32_code 18 = .ok (.ireturn, 1) := by decide +kernel
theorem d_Mo_free_19 : decode prog_8_method_32_code 19 = .ok (.aload_n 0, 1) := by decide +kernel
theorem d_Mo_free_20 : decode prog_8_method_32_code 20 = .ok (.getfield 33, 3) := by decide +kernel
theorem d_Mo_free_23 : decode prog_8_method_32_code 23 = .ok (.iload_n 1, 1) := by decide +kernel
theorem d_Mo_free_24 : decode prog_8_method_32_code 24 = .ok (.bipush 8, 2) := by decide +kernel
theorem d_Mo_free_26 : decode prog_8_method_32_code 26 = .ok (.imul, 1) := by decide +kernel
theorem d_Mo_free_27 : decode prog_8_method_32_code 27 = .ok (.iload_n 2, 1) := by decide +kernel
theorem d_Mo_free_28 : decode prog_8_method_32_code 28 = .ok (.iadd, 1) := by decide +kernel
theorem d_Mo_free_29 : decode prog_8_method_32_code 29 = .ok (.iaload, 1) := by decide +kernel
theorem d_Mo_free_30 : decode prog_8_method_32_code 30 = .ok (.istore 4, 2) := by decide +kernel
theorem d_Mo_free_32 : decode prog_8_method_32_code 32 = .ok (.aload_n 0, 1) := by decide +kernel
theorem d_Mo_free_33 : decode prog_8_method_32_code 33 = .ok (.getfield 36, 3) := by decide +kernel
theorem d_Mo_free_36 : decode prog_8_method_32_code 36 = .ok (.iload 4, 2) := by decide +kernel
theorem d_Mo_free_38 : decode prog_8_method_32_code 38 = .ok (.iaload, 1) := by decide +kernel
theorem d_Mo_free_39 : decode prog_8_method_32_code 39 = .ok (.istore 5, 2) := by decide +kernel
theorem d_Mo_free_41 : decode prog_8_method_32_code 41 = .ok (.iconst 0, 1) := by decide +kernel
theorem d_Mo_free_42 : decode prog_8_method_32_code 42 = .ok (.istore 6, 2) := by decide +kernel
theorem d_Mo_free_44 : decode prog_8_method_32_code 44 = .ok (.aload_n 0, 1) := by decide +kernel
theorem d_Mo_free_45 : decode prog_8_method_32_code 45 = .ok (.iload 4, 2) := by decide +kernel
theorem d_Mo_free_47 : decode prog_8_method_32_code 47 = .ok (.invokevirtual 115, 3) := by decide +kernel
theorem d_Mo_free_50 : decode prog_8_method_32_code 50 = .ok (.aload_n 0, 1) := by decide +kernel
theorem d_Mo_free_51 : decode prog_8_method_32_code 51 = .ok (.getfield 23, 3) := by decide +kernel
theorem d_Mo_free_54 : decode prog_8_method_32_code 54 = .ok (.iload 5, 2) := by decide +kernel
theorem d_Mo_free_56 : decode prog_8_method_32_code 56 = .ok (.iconst 0, 1) := by decide +kernel
theorem d_Mo_free_57 : decode prog_8_method_32_code 57 = .ok (.bastore, 1) := by decide +kernel
theorem d_Mo_free_58 : decode prog_8_method_32_code 58 = .ok (.iconst 0, 1) := by decide +kernel
theorem d_Mo_free_59 : decode prog_8_method_32_code 59 = .ok (.istore 7, 2) := by decide +kernel
theorem d_Mo_free_61 : decode prog_8_method_32_code 61 = .ok (.iload 7, 2) := by decide +kernel
theorem d_Mo_free_63 : decode prog_8_method_32_code 63 = .ok (.aload_n 0, 1) := by decide +kernel
theorem d_Mo_free_64 : decode prog_8_method_32_code 64 = .ok (.getfield 13, 3) := by decide +kernel
theorem d_Mo_free_67 : decode prog_8_method_32_code 67 = .ok (.if_icmp .ge 29, 3) := by decide +kernel
theorem d_Mo_free_70 : decode prog_8_method_32_code 70 = .ok (.aload_n 0, 1) := by decide +kernel
theorem d_Mo_free_71 : decode prog_8_method_32_code 71 = .ok (.getfield 36, 3) := by decide +kernel
theorem d_Mo_free_74 : decode prog_8_method_32_code 74 = .ok (.iload 7, 2) := by decide +kernel
theorem d_Mo_free_76 : decode prog_8_method_32_code 76 = .ok (.iaload, 1) := by decide +kernel
theorem d_Mo_free_77 : decode prog_8_method_32_code 77 = .ok (.iload 5, 2) := by decide +kernel
theorem d_Mo_free_79 : decode prog_8_method_32_code 79 = .ok (.if_icmp .ne 11, 3) := by decide +kernel
theorem d_Mo_free_82 : decode prog_8_method_32_code 82 = .ok (.aload_n 0, 1) := by decide +kernel
theorem d_Mo_free_83 : decode prog_8_method_32_code 83 = .ok (.getfield 48, 3) := by decide +kernel
theorem d_Mo_free_86 : decode prog_8_method_32_code 86 = .ok (.iload 7, 2) := by decide +kernel
theorem d_Mo_free_88 : decode prog_8_method_32_code 88 = .ok (.iconst 1, 1) := by decide +kernel
theorem d_Mo_free_89 : decode prog_8_method_32_code 89 = .ok (.bastore, 1) := by decide +kernel
theorem d_Mo_free_90 : decode prog_8_method_32_code 90 = .ok (.iinc 7 1, 3) := by decide +kernel
theorem d_Mo_free_93 : decode prog_8_method_32_code 93 = .ok (.goto (-32), 3) := by decide +kernel
theorem d_Mo_free_96 : decode prog_8_method_32_code 96 = .ok (.aload_n 0, 1) := by decide +kernel
theorem d_Mo_free_97 : decode prog_8_method_32_code 97 = .ok (.iload 4, 2) := by decide +kernel
theorem d_Mo_free_99 : decode prog_8_method_32_code 99 = .ok (.invokevirtual 70, 3) := by decide +kernel
theorem d_Mo_free_102 : decode prog_8_method_32_code 102 = .ok (.bipush 36, 2) := by decide +kernel
theorem d_Mo_free_104 : decode prog_8_method_32_code 104 = .ok (.imul, 1) := by decide +kernel
theorem d_Mo_free_105 : decode prog_8_method_32_code 105 = .ok (.istore 7, 2) := by decide +kernel
theorem d_Mo_free_107 : decode prog_8_method_32_code 107 = .ok (.iload 7, 2) := by decide +kernel
theorem d_Mo_free_109 : decode prog_8_method_32_code 109 = .ok (.aload_n 0, 1) := by decide +kernel
theorem d_Mo_free_110 : decode prog_8_method_32_code 110 = .ok (.iload 4, 2) := by decide +kernel
theorem d_Mo_free_112 : decode prog_8_method_32_code 112 = .ok (.invokevirtual 70, 3) := by decide +kernel
theorem d_Mo_free_115 : decode prog_8_method_32_code 115 = .ok (.bipush 36, 2) := by decide +kernel
theorem d_Mo_free_117 : decode prog_8_method_32_code 117 = .ok (.imul, 1) := by decide +kernel
theorem d_Mo_free_118 : decode prog_8_method_32_code 118 = .ok (.bipush 36, 2) := by decide +kernel
theorem d_Mo_free_120 : decode prog_8_method_32_code 120 = .ok (.iadd, 1) := by decide +kernel
theorem d_Mo_free_121 : decode prog_8_method_32_code 121 = .ok (.if_icmp .ge 61, 3) := by decide +kernel
theorem d_Mo_free_124 : decode prog_8_method_32_code 124 = .ok (.aload_n 0, 1) := by decide +kernel
theorem d_Mo_free_125 : decode prog_8_method_32_code 125 = .ok (.getfield 23, 3) := by decide +kernel
theorem d_Mo_free_128 : decode prog_8_method_32_code 128 = .ok (.iload 7, 2) := by decide +kernel
theorem d_Mo_free_130 : decode prog_8_method_32_code 130 = .ok (.iconst 3, 1) := by decide +kernel
theorem d_Mo_free_131 : decode prog_8_method_32_code 131 = .ok (.idiv, 1) := by decide +kernel
theorem d_Mo_free_132 : decode prog_8_method_32_code 132 = .ok (.baload, 1) := by decide +kernel
theorem d_Mo_free_133 : decode prog_8_method_32_code 133 = .ok (.ifCond .eq 43, 3) := by decide +kernel
theorem d_Mo_free_136 : decode prog_8_method_32_code 136 = .ok (.aload_n 0, 1) := by decide +kernel
theorem d_Mo_free_137 : decode prog_8_method_32_code 137 = .ok (.getfield 26, 3) := by decide +kernel
theorem d_Mo_free_140 : decode prog_8_method_32_code 140 = .ok (.iload 7, 2) := by decide +kernel
theorem d_Mo_free_142 : decode prog_8_method_32_code 142 = .ok (.iaload, 1) := by decide +kernel
theorem d_Mo_free_143 : decode prog_8_method_32_code 143 = .ok (.iconst 1, 1) := by decide +kernel
theorem d_Mo_free_144 : decode prog_8_method_32_code 144 = .ok (.if_icmp .ne 32, 3) := by decide +kernel
theorem d_Mo_free_147 : decode prog_8_method_32_code 147 = .ok (.aload_n 0, 1) := by decide +kernel
theorem d_Mo_free_148 : decode prog_8_method_32_code 148 = .ok (.getfield 30, 3) := by decide +kernel
theorem d_Mo_free_151 : decode prog_8_method_32_code 151 = .ok (.iload 7, 2) := by decide +kernel
theorem d_Mo_free_153 : decode prog_8_method_32_code 153 = .ok (.iaload, 1) := by decide +kernel
theorem d_Mo_free_154 : decode prog_8_method_32_code 154 = .ok (.iload 5, 2) := by decide +kernel
theorem d_Mo_free_156 : decode prog_8_method_32_code 156 = .ok (.bipush 12, 2) := by decide +kernel
theorem d_Mo_free_158 : decode prog_8_method_32_code 158 = .ok (.irem, 1) := by decide +kernel
theorem d_Mo_free_159 : decode prog_8_method_32_code 159 = .ok (.if_icmp .eq 6, 3) := by decide +kernel
theorem d_Mo_free_162 : decode prog_8_method_32_code 162 = .ok (.goto 14, 3) := by decide +kernel
theorem d_Mo_free_165 : decode prog_8_method_32_code 165 = .ok (.aload_n 0, 1) := by decide +kernel
theorem d_Mo_free_166 : decode prog_8_method_32_code 166 = .ok (.iload 7, 2) := by decide +kernel
theorem d_Mo_free_168 : decode prog_8_method_32_code 168 = .ok (.iconst 0, 1) := by decide +kernel
theorem d_Mo_free_169 : decode prog_8_method_32_code 169 = .ok (.iconst 0, 1) := by decide +kernel
theorem d_Mo_free_170 : decode prog_8_method_32_code 170 = .ok (.invokevirtual 90, 3) := by decide +kernel
theorem d_Mo_free_173 : decode prog_8_method_32_code 173 = .ok (.iinc 6 1, 3) := by decide +kernel
theorem d_Mo_free_176 : decode prog_8_method_32_code 176 = .ok (.iinc 7 1, 3) := by decide +kernel
theorem d_Mo_free_179 : decode prog_8_method_32_code 179 = .ok (.goto (-72), 3) := by decide +kernel
theorem d_Mo_free_182 : decode prog_8_method_32_code 182 = .ok (.aload_n 0, 1) := by decide +kernel
theorem d_Mo_free_183 : decode prog_8_method_32_code 183 = .ok (.iload 6, 2) := by decide +kernel
theorem d_Mo_free_185 : decode prog_8_method_32_code 185 = .ok (.invokevirtual 87, 3) := by decide +kernel
theorem d_Mo_free_188 : decode prog_8_method_32_code 188 = .ok (.ireturn, 1) := by decide +kernel
theorem d_Mo_end_0 : decode prog_8_method_33_code 0 = .ok (.aload_n 0, 1) := by decide +kernel
theorem d_Mo_end_1 : decode prog_8_method_33_code 1 = .ok (.iload_n 1, 1) := by decide +kernel
theorem d_Mo_end_2 : decode prog_8_method_33_code 2 = .ok (.invokevirtual 78, 3) := by decide +kernel
theorem d_Mo_end_5 : decode prog_8_method_33_code 5 = .ok (.ifCond .eq 9, 3) := by decide +kernel
theorem d_Mo_end_8 : decode prog_8_method_33_code 8 = .ok (.aload_n 0, 1) := by decide +kernel
theorem d_Mo_end_9 : decode prog_8_method_33_code 9 = .ok (.iconst 1, 1) := by decide +kernel
theorem d_Mo_end_10 : decode prog_8_method_33_code 10 = .ok (.invokevirtual 84, 3) := by decide +kernel
theorem d_Mo_end_13 : decode prog_8_method_33_code 13 = .ok (.ireturn, 1) := by decide +kernel
theorem d_Mo_end_14 : decode prog_8_method_33_code 14 = .ok (.aload_n 0, 1) := by decide +kernel
theorem d_Mo_end_15 : decode prog_8_method_33_code 15 = .ok (.getfield 19, 3) := by decide +kernel
theorem d_Mo_end_18 : decode prog_8_method_33_code 18 = .ok (.iload_n 1, 1) := by decide +kernel
theorem d_Mo_end_19 : decode prog_8_method_33_code 19 = .ok (.baload, 1) := by decide +kernel
theorem d_Mo_end_20 : decode prog_8_method_33_code 20 = .ok (.ifCond .eq 9, 3) := by decide +kernel
theorem d_Mo_end_23 : decode prog_8_method_33_code 23 = .ok (.aload_n 0, 1) := by decide +kernel
theorem d_Mo_end_24 : decode prog_8_method_33_code 24 = .ok (.iconst 2, 1) := by decide +kernel
theorem d_Mo_end_25 : decode prog_8_method_33_code 25 = .ok (.invokevirtual 84, 3) := by decide +kernel
theorem d_Mo_end_28 : decode prog_8_method_33_code 28 = .ok (.ireturn, 1) := by decide +kernel
theorem d_Mo_end_29 : decode prog_8_method_33_code 29 = .ok (.aload_n 0, 1) := by decide +kernel
theorem d_Mo_end_30 : decode prog_8_method_33_code 30 = .ok (.invokevirtual 107, 3) := by decide +kernel
theorem d_Mo_end_33 : decode prog_8_method_33_code 33 = .ok (.istore_n 2, 1) := by decide +kernel
theorem d_Mo_end_34 : decode prog_8_method_33_code 34 = .ok (.aload_n 0, 1) := by decide +kernel
theorem d_Mo_end_35 : decode prog_8_method_33_code 35 = .ok (.getfield 19, 3) := by decide +kernel
theorem d_Mo_end_38 : decode prog_8_method_33_code 38 = .ok (.iload_n 1, 1) := by decide +kernel
theorem d_Mo_end_39 : decode prog_8_method_33_code 39 = .ok (.iconst 1, 1) := by decide +kernel
theorem d_Mo_end_40 : decode prog_8_method_33_code 40 = .ok (.bastore, 1) := by decide +kernel
theorem d_Mo_end_41 : decode prog_8_method_33_code 41 = .ok (.iconst 0, 1) := by decide +kernel
theorem d_Mo_end_42 : decode prog_8_method_33_code 42 = .ok (.istore_n 3, 1) := by decide +kernel
theorem d_Mo_end_43 : decode prog_8_method_33_code 43 = .ok (.iload_n 3, 1) := by decide +kernel
theorem d_Mo_end_44 : decode prog_8_method_33_code 44 = .ok (.bipush 12, 2) := by decide +kernel
theorem d_Mo_end_46 : decode prog_8_method_33_code 46 = .ok (.if_icmp .ge 21, 3) := by decide +kernel
theorem d_Mo_end_49 : decode prog_8_method_33_code 49 = .ok (.aload_n 0, 1) := by decide +kernel
theorem d_Mo_end_50 : decode prog_8_method_33_code 50 = .ok (.getfield 23, 3) := by decide +kernel
theorem d_Mo_end_53 : decode prog_8_method_33_code 53 = .ok (.iload_n 1, 1) := by decide +kernel
theorem d_Mo_end_54 : decode prog_8_method_33_code 54 = .ok (.bipush 12, 2) := by decide +kernel
theorem d_Mo_end_56 : decode prog_8_method_33_code 56 = .ok (.imul, 1) := by decide +kernel
theorem d_Mo_end_57 : decode prog_8_method_33_code 57 = .ok (.iload_n 3, 1) := by decide +kernel
theorem d_Mo_end_58 : decode prog_8_method_33_code 58 = .ok (.iadd, 1) := by decide +kernel
theorem d_Mo_end_59 : decode prog_8_method_33_code 59 = .ok (.iconst 0, 1) := by decide +kernel
theorem d_Mo_end_60 : decode prog_8_method_33_code 60 = .ok (.bastore, 1) := by decide +kernel
theorem d_Mo_end_61 : decode prog_8_method_33_code 61 = .ok (.iinc 3 1, 3) := by decide +kernel
theorem d_Mo_end_64 : decode prog_8_method_33_code 64 = .ok (.goto (-21), 3) := by decide +kernel
theorem d_Mo_end_67 : decode prog_8_method_33_code 67 = .ok (.iconst 0, 1) := by decide +kernel
theorem d_Mo_end_68 : decode prog_8_method_33_code 68 = .ok (.istore_n 3, 1) := by decide +kernel
theorem d_Mo_end_69 : decode prog_8_method_33_code 69 = .ok (.iload_n 3, 1) := by decide +kernel
theorem d_Mo_end_70 : decode prog_8_method_33_code 70 = .ok (.bipush 8, 2) := by decide +kernel
theorem d_Mo_end_72 : decode prog_8_method_33_code 72 = .ok (.if_icmp .ge 21, 3) := by decide +kernel
theorem d_Mo_end_75 : decode prog_8_method_33_code 75 = .ok (.aload_n 0, 1) := by decide +kernel
theorem d_Mo_end_76 : decode prog_8_method_33_code 76 = .ok (.getfield 33, 3) := by decide +kernel
theorem d_Mo_end_79 : decode prog_8_method_33_code 79 = .ok (.iload_n 1, 1) := by decide +kernel
theorem d_Mo_end_80 : decode prog_8_method_33_code 80 = .ok (.bipush 8, 2) := by decide +kernel
theorem d_Mo_end_82 : decode prog_8_method_33_code 82 = .ok (.imul, 1) := by decide +kernel
theorem d_Mo_end_83 : decode prog_8_method_33_code 83 = .ok (.iload_n 3, 1) := by decide +kernel
theorem d_Mo_end_84 : decode prog_8_method_33_code 84 = .ok (.iadd, 1) := by decide +kernel
theorem d_Mo_end_85 : decode prog_8_method_33_code 85 = .ok (.iconst (-1), 1) := by decide +kernel
theorem d_Mo_end_86 : decode prog_8_method_33_code 86 = .ok (.iastore, 1) := by decide +kernel
theorem d_Mo_end_87 : decode prog_8_method_33_code 87 = .ok (.iinc 3 1, 3) := by decide +kernel
theorem d_Mo_end_90 : decode prog_8_method_33_code 90 = .ok (.goto (-21), 3) := by decide +kernel
theorem d_Mo_end_93 : decode prog_8_method_33_code 93 = .ok (.aload_n 0, 1) := by decide +kernel
theorem d_Mo_end_94 : decode prog_8_method_33_code 94 = .ok (.iload_n 2, 1) := by decide +kernel
theorem d_Mo_end_95 : decode prog_8_method_33_code 95 = .ok (.aload_n 0, 1) := by decide +kernel
theorem d_Mo_end_96 : decode prog_8_method_33_code 96 = .ok (.invokevirtual 107, 3) := by decide +kernel
theorem d_Mo_end_99 : decode prog_8_method_33_code 99 = .ok (.isub, 1) := by decide +kernel
theorem d_Mo_end_100 : decode prog_8_method_33_code 100 = .ok (.invokevirtual 87, 3) := by decide +kernel
theorem d_Mo_end_103 : decode prog_8_method_33_code 103 = .ok (.ireturn, 1) := by decide +kernel
theorem d_Mo_holds_0 : decode prog_8_method_34_code 0 = .ok (.aload_n 0, 1) := by decide +kernel
theorem d_Mo_holds_1 : decode prog_8_method_34_code 1 = .ok (.iconst 0, 1) := by decide +kernel
theorem d_Mo_holds_2 : decode prog_8_method_34_code 2 = .ok (.putfield 16, 3) := by decide +kernel
theorem d_Mo_holds_5 : decode prog_8_method_34_code 5 = .ok (.aload_n 0, 1) := by decide +kernel
theorem d_Mo_holds_6 : decode prog_8_method_34_code 6 = .ok (.iload_n 1, 1) := by decide +kernel
theorem d_Mo_holds_7 : decode prog_8_method_34_code 7 = .ok (.invokevirtual 78, 3) := by decide +kernel
theorem d_Mo_holds_10 : decode prog_8_method_34_code 10 = .ok (.ifCond .ne 21, 3) := by decide +kernel
theorem d_Mo_holds_13 : decode prog_8_method_34_code 13 = .ok (.aload_n 0, 1) := by decide +kernel
theorem d_Mo_holds_14 : decode prog_8_method_34_code 14 = .ok (.iload_n 1, 1) := by decide +kernel
theorem d_Mo_holds_15 : decode prog_8_method_34_code 15 = .ok (.iload_n 2, 1) := by decide +kernel
theorem d_Mo_holds_16 : decode prog_8_method_34_code 16 = .ok (.invokevirtual 100, 3) := by decide +kernel
theorem d_Mo_holds_19 : decode prog_8_method_34_code 19 = .ok (.ifCond .ne 12, 3) := by decide +kernel
theorem d_Mo_holds_22 : decode prog_8_method_34_code 22 = .ok (.aload_n 0, 1) := by decide +kernel
theorem d_Mo_holds_23 : decode prog_8_method_34_code 23 = .ok (.iload_n 3, 1) := by decide +kernel
theorem d_Mo_holds_24 : decode prog_8_method_34_code 24 = .ok (.iconst 3, 1) := by decide +kernel
theorem d_Mo_holds_25 : decode prog_8_method_34_code 25 = .ok (.invokevirtual 66, 3) := by decide +kernel
theorem d_Mo_holds_28 : decode prog_8_method_34_code 28 = .ok (.ifCond .eq 5, 3) := by decide +kernel
theorem d_Mo_holds_31 : decode prog_8_method_34_code 31 = .ok (.iconst (-1), 1) := by decide +kernel
theorem d_Mo_holds_32 : decode prog_8_method_34_code 32 = .ok (.ireturn, 1) := by decide +kernel
theorem d_Mo_holds_33 : decode prog_8_method_34_code 33 = .ok (.iload_n 1, 1) := by decide +kernel
theorem d_Mo_holds_34 : decode prog_8_method_34_code 34 = .ok (.bipush 12, 2) := by decide +kernel
theorem d_Mo_holds_36 : decode prog_8_method_34_code 36 = .ok (.imul, 1) := by decide +kernel
theorem d_Mo_holds_37 : decode prog_8_method_34_code 37 = .ok (.iload_n 2, 1) := by decide +kernel
theorem d_Mo_holds_38 : decode prog_8_method_34_code 38 = .ok (.iadd, 1) := by decide +kernel
theorem d_Mo_holds_39 : decode prog_8_method_34_code 39 = .ok (.iconst 3, 1) := by decide +kernel
theorem d_Mo_holds_40 : decode prog_8_method_34_code 40 = .ok (.imul, 1) := by decide +kernel
theorem d_Mo_holds_41 : decode prog_8_method_34_code 41 = .ok (.iload_n 3, 1) := by decide +kernel
theorem d_Mo_holds_42 : decode prog_8_method_34_code 42 = .ok (.iadd, 1) := by decide +kernel
theorem d_Mo_holds_43 : decode prog_8_method_34_code 43 = .ok (.istore 4, 2) := by decide +kernel
theorem d_Mo_holds_45 : decode prog_8_method_34_code 45 = .ok (.aload_n 0, 1) := by decide +kernel
theorem d_Mo_holds_46 : decode prog_8_method_34_code 46 = .ok (.getfield 26, 3) := by decide +kernel
theorem d_Mo_holds_49 : decode prog_8_method_34_code 49 = .ok (.iload 4, 2) := by decide +kernel
theorem d_Mo_holds_51 : decode prog_8_method_34_code 51 = .ok (.iaload, 1) := by decide +kernel
theorem d_Mo_holds_52 : decode prog_8_method_34_code 52 = .ok (.iconst 2, 1) := by decide +kernel
theorem d_Mo_holds_53 : decode prog_8_method_34_code 53 = .ok (.if_icmp .ge 13, 3) := by decide +kernel
theorem d_Mo_holds_56 : decode prog_8_method_34_code 56 = .ok (.aload_n 0, 1) := by decide +kernel
theorem d_Mo_holds_57 : decode prog_8_method_34_code 57 = .ok (.getfield 26, 3) := by decide +kernel
theorem d_Mo_holds_60 : decode prog_8_method_34_code 60 = .ok (.iload 4, 2) := by decide +kernel
theorem d_Mo_holds_62 : decode prog_8_method_34_code 62 = .ok (.iaload, 1) := by decide +kernel
theorem d_Mo_holds_63 : decode prog_8_method_34_code 63 = .ok (.goto 22, 3) := by decide +kernel
theorem d_Mo_holds_66 : decode prog_8_method_34_code 66 = .ok (.aload_n 0, 1) := by decide +kernel
theorem d_Mo_holds_67 : decode prog_8_method_34_code 67 = .ok (.aload_n 0, 1) := by decide +kernel
theorem d_Mo_holds_68 : decode prog_8_method_34_code 68 = .ok (.getfield 30, 3) := by decide +kernel
theorem d_Mo_holds_71 : decode prog_8_method_34_code 71 = .ok (.iload 4, 2) := by decide +kernel
theorem d_Mo_holds_73 : decode prog_8_method_34_code 73 = .ok (.iaload, 1) := by decide +kernel
theorem d_Mo_holds_74 : decode prog_8_method_34_code 74 = .ok (.invokevirtual 74, 3) := by decide +kernel
theorem d_Mo_holds_77 : decode prog_8_method_34_code 77 = .ok (.ifCond .eq 7, 3) := by decide +kernel
theorem d_Mo_holds_80 : decode prog_8_method_34_code 80 = .ok (.iconst 3, 1) := by decide +kernel
theorem d_Mo_holds_81 : decode prog_8_method_34_code 81 = .ok (.goto 4, 3) := by decide +kernel
theorem d_Mo_holds_84 : decode prog_8_method_34_code 84 = .ok (.iconst 2, 1) := by decide +kernel
theorem d_Mo_holds_85 : decode prog_8_method_34_code 85 = .ok (.ireturn, 1) := by decide +kernel
theorem d_Mo_linked_0 : decode prog_8_method_35_code 0 = .ok (.aload_n 0, 1) := by decide +kernel
theorem d_Mo_linked_1 : decode prog_8_method_35_code 1 = .ok (.iconst 0, 1) := by decide +kernel
theorem d_Mo_linked_2 : decode prog_8_method_35_code 2 = .ok (.putfield 16, 3) := by decide +kernel
theorem d_Mo_linked_5 : decode prog_8_method_35_code 5 = .ok (.aload_n 0, 1) := by decide +kernel
theorem d_Mo_linked_6 : decode prog_8_method_35_code 6 = .ok (.iload_n 1, 1) := by decide +kernel
theorem d_Mo_linked_7 : decode prog_8_method_35_code 7 = .ok (.invokevirtual 78, 3) := by decide +kernel
theorem d_Mo_linked_10 : decode prog_8_method_35_code 10 = .ok (.ifCond .ne 21, 3) := by decide +kernel
theorem d_Mo_linked_13 : decode prog_8_method_35_code 13 = .ok (.aload_n 0, 1) := by decide +kernel
theorem d_Mo_linked_14 : decode prog_8_method_35_code 14 = .ok (.iload_n 1, 1) := by decide +kernel
theorem d_Mo_linked_15 : decode prog_8_method_35_code 15 = .ok (.iload_n 2, 1) := by decide +kernel
theorem d_Mo_linked_16 : decode prog_8_method_35_code 16 = .ok (.invokevirtual 100, 3) := by decide +kernel
theorem d_Mo_linked_19 : decode prog_8_method_35_code 19 = .ok (.ifCond .ne 12, 3) := by decide +kernel
theorem d_Mo_linked_22 : decode prog_8_method_35_code 22 = .ok (.aload_n 0, 1) := by decide +kernel
theorem d_Mo_linked_23 : decode prog_8_method_35_code 23 = .ok (.iload_n 3, 1) := by decide +kernel
theorem d_Mo_linked_24 : decode prog_8_method_35_code 24 = .ok (.iconst 3, 1) := by decide +kernel
theorem d_Mo_linked_25 : decode prog_8_method_35_code 25 = .ok (.invokevirtual 66, 3) := by decide +kernel
theorem d_Mo_linked_28 : decode prog_8_method_35_code 28 = .ok (.ifCond .eq 5, 3) := by decide +kernel
theorem d_Mo_linked_31 : decode prog_8_method_35_code 31 = .ok (.iconst (-1), 1) := by decide +kernel
theorem d_Mo_linked_32 : decode prog_8_method_35_code 32 = .ok (.ireturn, 1) := by decide +kernel
theorem d_Mo_linked_33 : decode prog_8_method_35_code 33 = .ok (.iload_n 1, 1) := by decide +kernel
theorem d_Mo_linked_34 : decode prog_8_method_35_code 34 = .ok (.bipush 12, 2) := by decide +kernel
theorem d_Mo_linked_36 : decode prog_8_method_35_code 36 = .ok (.imul, 1) := by decide +kernel
theorem d_Mo_linked_37 : decode prog_8_method_35_code 37 = .ok (.iload_n 2, 1) := by decide +kernel
theorem d_Mo_linked_38 : decode prog_8_method_35_code 38 = .ok (.iadd, 1) := by decide +kernel
theorem d_Mo_linked_39 : decode prog_8_method_35_code 39 = .ok (.iconst 3, 1) := by decide +kernel
theorem d_Mo_linked_40 : decode prog_8_method_35_code 40 = .ok (.imul, 1) := by decide +kernel
theorem d_Mo_linked_41 : decode prog_8_method_35_code 41 = .ok (.iload_n 3, 1) := by decide +kernel
theorem d_Mo_linked_42 : decode prog_8_method_35_code 42 = .ok (.iadd, 1) := by decide +kernel
theorem d_Mo_linked_43 : decode prog_8_method_35_code 43 = .ok (.istore 4, 2) := by decide +kernel
theorem d_Mo_linked_45 : decode prog_8_method_35_code 45 = .ok (.aload_n 0, 1) := by decide +kernel
theorem d_Mo_linked_46 : decode prog_8_method_35_code 46 = .ok (.getfield 26, 3) := by decide +kernel
theorem d_Mo_linked_49 : decode prog_8_method_35_code 49 = .ok (.iload 4, 2) := by decide +kernel
theorem d_Mo_linked_51 : decode prog_8_method_35_code 51 = .ok (.iaload, 1) := by decide +kernel
theorem d_Mo_linked_52 : decode prog_8_method_35_code 52 = .ok (.iconst 1, 1) := by decide +kernel
theorem d_Mo_linked_53 : decode prog_8_method_35_code 53 = .ok (.if_icmp .ne 13, 3) := by decide +kernel
theorem d_Mo_linked_56 : decode prog_8_method_35_code 56 = .ok (.aload_n 0, 1) := by decide +kernel
theorem d_Mo_linked_57 : decode prog_8_method_35_code 57 = .ok (.getfield 30, 3) := by decide +kernel
theorem d_Mo_linked_60 : decode prog_8_method_35_code 60 = .ok (.iload 4, 2) := by decide +kernel
theorem d_Mo_linked_62 : decode prog_8_method_35_code 62 = .ok (.iaload, 1) := by decide +kernel
theorem d_Mo_linked_63 : decode prog_8_method_35_code 63 = .ok (.goto 4, 3) := by decide +kernel
theorem d_Mo_linked_66 : decode prog_8_method_35_code 66 = .ok (.iconst (-1), 1) := by decide +kernel
theorem d_Mo_linked_67 : decode prog_8_method_35_code 67 = .ok (.ireturn, 1) := by decide +kernel
theorem d_Mo_slot_0 : decode prog_8_method_36_code 0 = .ok (.aload_n 0, 1) := by decide +kernel
theorem d_Mo_slot_1 : decode prog_8_method_36_code 1 = .ok (.iconst 0, 1) := by decide +kernel
theorem d_Mo_slot_2 : decode prog_8_method_36_code 2 = .ok (.putfield 16, 3) := by decide +kernel
theorem d_Mo_slot_5 : decode prog_8_method_36_code 5 = .ok (.aload_n 0, 1) := by decide +kernel
theorem d_Mo_slot_6 : decode prog_8_method_36_code 6 = .ok (.iload_n 1, 1) := by decide +kernel
theorem d_Mo_slot_7 : decode prog_8_method_36_code 7 = .ok (.invokevirtual 78, 3) := by decide +kernel
theorem d_Mo_slot_10 : decode prog_8_method_36_code 10 = .ok (.ifCond .ne 22, 3) := by decide +kernel
theorem d_Mo_slot_13 : decode prog_8_method_36_code 13 = .ok (.aload_n 0, 1) := by decide +kernel
theorem d_Mo_slot_14 : decode prog_8_method_36_code 14 = .ok (.getfield 19, 3) := by decide +kernel
theorem d_Mo_slot_17 : decode prog_8_method_36_code 17 = .ok (.iload_n 1, 1) := by decide +kernel
theorem d_Mo_slot_18 : decode prog_8_method_36_code 18 = .ok (.baload, 1) := by decide +kernel
theorem d_Mo_slot_19 : decode prog_8_method_36_code 19 = .ok (.ifCond .ne 13, 3) := by decide +kernel
theorem d_Mo_slot_22 : decode prog_8_method_36_code 22 = .ok (.aload_n 0, 1) := by decide +kernel
theorem d_Mo_slot_23 : decode prog_8_method_36_code 23 = .ok (.iload_n 2, 1) := by decide +kernel
theorem d_Mo_slot_24 : decode prog_8_method_36_code 24 = .ok (.bipush 8, 2) := by decide +kernel
theorem d_Mo_slot_26 : decode prog_8_method_36_code 26 = .ok (.invokevirtual 66, 3) := by decide +kernel
theorem d_Mo_slot_29 : decode prog_8_method_36_code 29 = .ok (.ifCond .eq 5, 3) := by decide +kernel
theorem d_Mo_slot_32 : decode prog_8_method_36_code 32 = .ok (.iconst (-1), 1) := by decide +kernel
theorem d_Mo_slot_33 : decode prog_8_method_36_code 33 = .ok (.ireturn, 1) := by decide +kernel
theorem d_Mo_slot_34 : decode prog_8_method_36_code 34 = .ok (.aload_n 0, 1) := by decide +kernel
theorem d_Mo_slot_35 : decode prog_8_method_36_code 35 = .ok (.getfield 33, 3) := by decide +kernel
theorem d_Mo_slot_38 : decode prog_8_method_36_code 38 = .ok (.iload_n 1, 1) := by decide +kernel
theorem d_Mo_slot_39 : decode prog_8_method_36_code 39 = .ok (.bipush 8, 2) := by decide +kernel
theorem d_Mo_slot_41 : decode prog_8_method_36_code 41 = .ok (.imul, 1) := by decide +kernel
theorem d_Mo_slot_42 : decode prog_8_method_36_code 42 = .ok (.iload_n 2, 1) := by decide +kernel
theorem d_Mo_slot_43 : decode prog_8_method_36_code 43 = .ok (.iadd, 1) := by decide +kernel
theorem d_Mo_slot_44 : decode prog_8_method_36_code 44 = .ok (.iaload, 1) := by decide +kernel
theorem d_Mo_slot_45 : decode prog_8_method_36_code 45 = .ok (.istore_n 3, 1) := by decide +kernel
theorem d_Mo_slot_46 : decode prog_8_method_36_code 46 = .ok (.iload_n 3, 1) := by decide +kernel
theorem d_Mo_slot_47 : decode prog_8_method_36_code 47 = .ok (.ifCond .ge 7, 3) := by decide +kernel
theorem d_Mo_slot_50 : decode prog_8_method_36_code 50 = .ok (.iconst 0, 1) := by decide +kernel
theorem d_Mo_slot_51 : decode prog_8_method_36_code 51 = .ok (.goto 16, 3) := by decide +kernel
theorem d_Mo_slot_54 : decode prog_8_method_36_code 54 = .ok (.aload_n 0, 1) := by decide +kernel
theorem d_Mo_slot_55 : decode prog_8_method_36_code 55 = .ok (.iload_n 3, 1) := by decide +kernel
theorem d_Mo_slot_56 : decode prog_8_method_36_code 56 = .ok (.invokevirtual 74, 3) := by decide +kernel
theorem d_Mo_slot_59 : decode prog_8_method_36_code 59 = .ok (.ifCond .eq 7, 3) := by decide +kernel
theorem d_Mo_slot_62 : decode prog_8_method_36_code 62 = .ok (.iconst 2, 1) := by decide +kernel
theorem d_Mo_slot_63 : decode prog_8_method_36_code 63 = .ok (.goto 4, 3) := by decide +kernel
theorem d_Mo_slot_66 : decode prog_8_method_36_code 66 = .ok (.iconst 1, 1) := by decide +kernel
theorem d_Mo_slot_67 : decode prog_8_method_36_code 67 = .ok (.ireturn, 1) := by decide +kernel
theorem d_Mo_count_0 : decode prog_8_method_37_code 0 = .ok (.aload_n 0, 1) := by decide +kernel
theorem d_Mo_count_1 : decode prog_8_method_37_code 1 = .ok (.iconst 0, 1) := by decide +kernel
theorem d_Mo_count_2 : decode prog_8_method_37_code 2 = .ok (.putfield 16, 3) := by decide +kernel
theorem d_Mo_count_5 : decode prog_8_method_37_code 5 = .ok (.iconst 0, 1) := by decide +kernel
theorem d_Mo_count_6 : decode prog_8_method_37_code 6 = .ok (.istore_n 2, 1) := by decide +kernel
theorem d_Mo_count_7 : decode prog_8_method_37_code 7 = .ok (.iconst 0, 1) := by decide +kernel
theorem d_Mo_count_8 : decode prog_8_method_37_code 8 = .ok (.istore_n 3, 1) := by decide +kernel
theorem d_Mo_count_9 : decode prog_8_method_37_code 9 = .ok (.iload_n 3, 1) := by decide +kernel
theorem d_Mo_count_10 : decode prog_8_method_37_code 10 = .ok (.aload_n 0, 1) := by decide +kernel
theorem d_Mo_count_11 : decode prog_8_method_37_code 11 = .ok (.getfield 7, 3) := by decide +kernel
theorem d_Mo_count_14 : decode prog_8_method_37_code 14 = .ok (.if_icmp .ge 21, 3) := by decide +kernel
theorem d_Mo_count_17 : decode prog_8_method_37_code 17 = .ok (.aload_n 0, 1) := by decide +kernel
theorem d_Mo_count_18 : decode prog_8_method_37_code 18 = .ok (.getfield 19, 3) := by decide +kernel
theorem d_Mo_count_21 : decode prog_8_method_37_code 21 = .ok (.iload_n 3, 1) := by decide +kernel
theorem d_Mo_count_22 : decode prog_8_method_37_code 22 = .ok (.baload, 1) := by decide +kernel
theorem d_Mo_count_23 : decode prog_8_method_37_code 23 = .ok (.ifCond .ne 6, 3) := by decide +kernel
theorem d_Mo_count_26 : decode prog_8_method_37_code 26 = .ok (.iinc 2 1, 3) := by decide +kernel
theorem d_Mo_count_29 : decode prog_8_method_37_code 29 = .ok (.iinc 3 1, 3) := by decide +kernel
theorem d_Mo_count_32 : decode prog_8_method_37_code 32 = .ok (.goto (-23), 3) := by decide +kernel
theorem d_Mo_count_35 : decode prog_8_method_37_code 35 = .ok (.iload_n 1, 1) := by decide +kernel
theorem d_Mo_count_36 : decode prog_8_method_37_code 36 = .ok (.ifCond .ne 8, 3) := by decide +kernel
theorem d_Mo_count_39 : decode prog_8_method_37_code 39 = .ok (.aload_n 0, 1) := by decide +kernel
theorem d_Mo_count_40 : decode prog_8_method_37_code 40 = .ok (.getfield 7, 3) := by decide +kernel
theorem d_Mo_count_43 : decode prog_8_method_37_code 43 = .ok (.ireturn, 1) := by decide +kernel
theorem d_Mo_count_44 : decode prog_8_method_37_code 44 = .ok (.iload_n 1, 1) := by decide +kernel
theorem d_Mo_count_45 : decode prog_8_method_37_code 45 = .ok (.iconst 1, 1) := by decide +kernel
theorem d_Mo_count_46 : decode prog_8_method_37_code 46 = .ok (.if_icmp .ne 5, 3) := by decide +kernel
theorem d_Mo_count_49 : decode prog_8_method_37_code 49 = .ok (.iload_n 2, 1) := by decide +kernel
theorem d_Mo_count_50 : decode prog_8_method_37_code 50 = .ok (.ireturn, 1) := by decide +kernel
theorem d_Mo_count_51 : decode prog_8_method_37_code 51 = .ok (.iload_n 1, 1) := by decide +kernel
theorem d_Mo_count_52 : decode prog_8_method_37_code 52 = .ok (.iconst 2, 1) := by decide +kernel
theorem d_Mo_count_53 : decode prog_8_method_37_code 53 = .ok (.if_icmp .ne 8, 3) := by decide +kernel
theorem d_Mo_count_56 : decode prog_8_method_37_code 56 = .ok (.aload_n 0, 1) := by decide +kernel
theorem d_Mo_count_57 : decode prog_8_method_37_code 57 = .ok (.getfield 13, 3) := by decide +kernel
theorem d_Mo_count_60 : decode prog_8_method_37_code 60 = .ok (.ireturn, 1) := by decide +kernel
theorem d_Mo_count_61 : decode prog_8_method_37_code 61 = .ok (.iload_n 1, 1) := by decide +kernel
theorem d_Mo_count_62 : decode prog_8_method_37_code 62 = .ok (.iconst 3, 1) := by decide +kernel
theorem d_Mo_count_63 : decode prog_8_method_37_code 63 = .ok (.if_icmp .ne 8, 3) := by decide +kernel
theorem d_Mo_count_66 : decode prog_8_method_37_code 66 = .ok (.aload_n 0, 1) := by decide +kernel
theorem d_Mo_count_67 : decode prog_8_method_37_code 67 = .ok (.invokevirtual 107, 3) := by decide +kernel
theorem d_Mo_count_70 : decode prog_8_method_37_code 70 = .ok (.ireturn, 1) := by decide +kernel
theorem d_Mo_count_71 : decode prog_8_method_37_code 71 = .ok (.iload_n 1, 1) := by decide +kernel
theorem d_Mo_count_72 : decode prog_8_method_37_code 72 = .ok (.iconst 3, 1) := by decide +kernel
theorem d_Mo_count_73 : decode prog_8_method_37_code 73 = .ok (.if_icmp .le 33, 3) := by decide +kernel
theorem d_Mo_count_76 : decode prog_8_method_37_code 76 = .ok (.iload_n 1, 1) := by decide +kernel
theorem d_Mo_count_77 : decode prog_8_method_37_code 77 = .ok (.bipush 10, 2) := by decide +kernel
theorem d_Mo_count_79 : decode prog_8_method_37_code 79 = .ok (.if_icmp .ge 27, 3) := by decide +kernel
theorem d_Mo_count_82 : decode prog_8_method_37_code 82 = .ok (.iload_n 1, 1) := by decide +kernel
theorem d_Mo_count_83 : decode prog_8_method_37_code 83 = .ok (.iconst 4, 1) := by decide +kernel
theorem d_Mo_count_84 : decode prog_8_method_37_code 84 = .ok (.isub, 1) := by decide +kernel
theorem d_Mo_count_85 : decode prog_8_method_37_code 85 = .ok (.aload_n 0, 1) := by decide +kernel
theorem d_Mo_count_86 : decode prog_8_method_37_code 86 = .ok (.getfield 7, 3) := by decide +kernel
theorem d_Mo_count_89 : decode prog_8_method_37_code 89 = .ok (.if_icmp .ge 13, 3) := by decide +kernel
theorem d_Mo_count_92 : decode prog_8_method_37_code 92 = .ok (.aload_n 0, 1) := by decide +kernel
theorem d_Mo_count_93 : decode prog_8_method_37_code 93 = .ok (.iload_n 1, 1) := by decide +kernel
theorem d_Mo_count_94 : decode prog_8_method_37_code 94 = .ok (.iconst 4, 1) := by decide +kernel
theorem d_Mo_count_95 : decode prog_8_method_37_code 95 = .ok (.isub, 1) := by decide +kernel
theorem d_Mo_count_96 : decode prog_8_method_37_code 96 = .ok (.invokevirtual 94, 3) := by decide +kernel
theorem d_Mo_count_99 : decode prog_8_method_37_code 99 = .ok (.goto 8, 3) := by decide +kernel
theorem d_Mo_count_102 : decode prog_8_method_37_code 102 = .ok (.iconst 0, 1) := by decide +kernel
theorem d_Mo_count_103 : decode prog_8_method_37_code 103 = .ok (.goto 4, 3) := by decide +kernel
theorem d_Mo_count_106 : decode prog_8_method_37_code 106 = .ok (.iconst (-1), 1) := by decide +kernel
theorem d_Mo_count_107 : decode prog_8_method_37_code 107 = .ok (.ireturn, 1) := by decide +kernel
end
section
theorem d_La_domain_0 : decode method_3_code 0 = .ok (.aload_n 1, 1) := by decide +kernel
theorem d_La_domain_1 : decode method_3_code 1 = .ok (.iconst 0, 1) := by decide +kernel
theorem d_La_domain_2 : decode method_3_code 2 = .ok (.aload_n 0, 1) := by decide +kernel
theorem d_La_domain_3 : decode method_3_code 3 = .ok (.invokevirtual 7, 3) := by decide +kernel
theorem d_La_domain_6 : decode method_3_code 6 = .ok (.i2l, 1) := by decide +kernel
theorem d_La_domain_7 : decode method_3_code 7 = .ok (.lastore, 1) := by decide +kernel
theorem d_La_domain_8 : decode method_3_code 8 = .ok (.goto 6, 3) := by decide +kernel
theorem d_La_domain_11 : decode method_3_code 11 = .ok (.astore_n 2, 1) := by decide +kernel
theorem d_La_domain_12 : decode method_3_code 12 = .ok (.iconst 1, 1) := by decide +kernel
theorem d_La_domain_13 : decode method_3_code 13 = .ok (.ireturn, 1) := by decide +kernel
theorem d_La_domain_14 : decode method_3_code 14 = .ok (.iconst 0, 1) := by decide +kernel
theorem d_La_domain_15 : decode method_3_code 15 = .ok (.ireturn, 1) := by decide +kernel
theorem d_La_object_0 : decode method_4_code 0 = .ok (.aload_n 2, 1) := by decide +kernel
theorem d_La_object_1 : decode method_4_code 1 = .ok (.iconst 0, 1) := by decide +kernel
theorem d_La_object_2 : decode method_4_code 2 = .ok (.aload_n 0, 1) := by decide +kernel
theorem d_La_object_3 : decode method_4_code 3 = .ok (.iload_n 1, 1) := by decide +kernel
theorem d_La_object_4 : decode method_4_code 4 = .ok (.invokevirtual 15, 3) := by decide +kernel
theorem d_La_object_7 : decode method_4_code 7 = .ok (.i2l, 1) := by decide +kernel
theorem d_La_object_8 : decode method_4_code 8 = .ok (.lastore, 1) := by decide +kernel
theorem d_La_object_9 : decode method_4_code 9 = .ok (.goto 12, 3) := by decide +kernel
theorem d_La_object_12 : decode method_4_code 12 = .ok (.astore_n 3, 1) := by decide +kernel
theorem d_La_object_13 : decode method_4_code 13 = .ok (.iconst 1, 1) := by decide +kernel
theorem d_La_object_14 : decode method_4_code 14 = .ok (.ireturn, 1) := by decide +kernel
theorem d_La_object_15 : decode method_4_code 15 = .ok (.astore_n 3, 1) := by decide +kernel
theorem d_La_object_16 : decode method_4_code 16 = .ok (.iconst 2, 1) := by decide +kernel
theorem d_La_object_17 : decode method_4_code 17 = .ok (.ireturn, 1) := by decide +kernel
theorem d_La_object_18 : decode method_4_code 18 = .ok (.astore_n 3, 1) := by decide +kernel
theorem d_La_object_19 : decode method_4_code 19 = .ok (.iconst 3, 1) := by decide +kernel
theorem d_La_object_20 : decode method_4_code 20 = .ok (.ireturn, 1) := by decide +kernel
theorem d_La_object_21 : decode method_4_code 21 = .ok (.iconst 0, 1) := by decide +kernel
theorem d_La_object_22 : decode method_4_code 22 = .ok (.ireturn, 1) := by decide +kernel
theorem d_La_set_0 : decode method_5_code 0 = .ok (.aload 5, 2) := by decide +kernel
theorem d_La_set_2 : decode method_5_code 2 = .ok (.iconst 0, 1) := by decide +kernel
theorem d_La_set_3 : decode method_5_code 3 = .ok (.aload_n 0, 1) := by decide +kernel
theorem d_La_set_4 : decode method_5_code 4 = .ok (.iload_n 1, 1) := by decide +kernel
theorem d_La_set_5 : decode method_5_code 5 = .ok (.iload_n 2, 1) := by decide +kernel
theorem d_La_set_6 : decode method_5_code 6 = .ok (.iload_n 3, 1) := by decide +kernel
theorem d_La_set_7 : decode method_5_code 7 = .ok (.iload 4, 2) := by decide +kernel
theorem d_La_set_9 : decode method_5_code 9 = .ok (.invokevirtual 23, 3) := by decide +kernel
theorem d_La_set_12 : decode method_5_code 12 = .ok (.i2l, 1) := by decide +kernel
theorem d_La_set_13 : decode method_5_code 13 = .ok (.lastore, 1) := by decide +kernel
theorem d_La_set_14 : decode method_5_code 14 = .ok (.goto 19, 3) := by decide +kernel
theorem d_La_set_17 : decode method_5_code 17 = .ok (.astore 6, 2) := by decide +kernel
theorem d_La_set_19 : decode method_5_code 19 = .ok (.iconst 1, 1) := by decide +kernel
theorem d_La_set_20 : decode method_5_code 20 = .ok (.ireturn, 1) := by decide +kernel
theorem d_La_set_21 : decode method_5_code 21 = .ok (.astore 6, 2) := by decide +kernel
theorem d_La_set_23 : decode method_5_code 23 = .ok (.iconst 2, 1) := by decide +kernel
theorem d_La_set_24 : decode method_5_code 24 = .ok (.ireturn, 1) := by decide +kernel
theorem d_La_set_25 : decode method_5_code 25 = .ok (.astore 6, 2) := by decide +kernel
theorem d_La_set_27 : decode method_5_code 27 = .ok (.iconst 3, 1) := by decide +kernel
theorem d_La_set_28 : decode method_5_code 28 = .ok (.ireturn, 1) := by decide +kernel
theorem d_La_set_29 : decode method_5_code 29 = .ok (.astore 6, 2) := by decide +kernel
theorem d_La_set_31 : decode method_5_code 31 = .ok (.iconst 4, 1) := by decide +kernel
theorem d_La_set_32 : decode method_5_code 32 = .ok (.ireturn, 1) := by decide +kernel
theorem d_La_set_33 : decode method_5_code 33 = .ok (.iconst 0, 1) := by decide +kernel
theorem d_La_set_34 : decode method_5_code 34 = .ok (.ireturn, 1) := by decide +kernel
theorem d_La_link_0 : decode method_6_code 0 = .ok (.aload 5, 2) := by decide +kernel
theorem d_La_link_2 : decode method_6_code 2 = .ok (.iconst 0, 1) := by decide +kernel
theorem d_La_link_3 : decode method_6_code 3 = .ok (.aload_n 0, 1) := by decide +kernel
theorem d_La_link_4 : decode method_6_code 4 = .ok (.iload_n 1, 1) := by decide +kernel
theorem d_La_link_5 : decode method_6_code 5 = .ok (.iload_n 2, 1) := by decide +kernel
theorem d_La_link_6 : decode method_6_code 6 = .ok (.iload_n 3, 1) := by decide +kernel
theorem d_La_link_7 : decode method_6_code 7 = .ok (.iload 4, 2) := by decide +kernel
theorem d_La_link_9 : decode method_6_code 9 = .ok (.invokevirtual 31, 3) := by decide +kernel
theorem d_La_link_12 : decode method_6_code 12 = .ok (.i2l, 1) := by decide +kernel
theorem d_La_link_13 : decode method_6_code 13 = .ok (.lastore, 1) := by decide +kernel
theorem d_La_link_14 : decode method_6_code 14 = .ok (.goto 19, 3) := by decide +kernel
theorem d_La_link_17 : decode method_6_code 17 = .ok (.astore 6, 2) := by decide +kernel
theorem d_La_link_19 : decode method_6_code 19 = .ok (.iconst 1, 1) := by decide +kernel
theorem d_La_link_20 : decode method_6_code 20 = .ok (.ireturn, 1) := by decide +kernel
theorem d_La_link_21 : decode method_6_code 21 = .ok (.astore 6, 2) := by decide +kernel
theorem d_La_link_23 : decode method_6_code 23 = .ok (.iconst 2, 1) := by decide +kernel
theorem d_La_link_24 : decode method_6_code 24 = .ok (.ireturn, 1) := by decide +kernel
theorem d_La_link_25 : decode method_6_code 25 = .ok (.astore 6, 2) := by decide +kernel
theorem d_La_link_27 : decode method_6_code 27 = .ok (.iconst 3, 1) := by decide +kernel
theorem d_La_link_28 : decode method_6_code 28 = .ok (.ireturn, 1) := by decide +kernel
theorem d_La_link_29 : decode method_6_code 29 = .ok (.astore 6, 2) := by decide +kernel
theorem d_La_link_31 : decode method_6_code 31 = .ok (.iconst 4, 1) := by decide +kernel
theorem d_La_link_32 : decode method_6_code 32 = .ok (.ireturn, 1) := by decide +kernel
theorem d_La_link_33 : decode method_6_code 33 = .ok (.iconst 0, 1) := by decide +kernel
theorem d_La_link_34 : decode method_6_code 34 = .ok (.ireturn, 1) := by decide +kernel
theorem d_La_hold_0 : decode method_7_code 0 = .ok (.aload 5, 2) := by decide +kernel
theorem d_La_hold_2 : decode method_7_code 2 = .ok (.iconst 0, 1) := by decide +kernel
theorem d_La_hold_3 : decode method_7_code 3 = .ok (.aload_n 0, 1) := by decide +kernel
theorem d_La_hold_4 : decode method_7_code 4 = .ok (.iload_n 1, 1) := by decide +kernel
theorem d_La_hold_5 : decode method_7_code 5 = .ok (.iload_n 2, 1) := by decide +kernel
theorem d_La_hold_6 : decode method_7_code 6 = .ok (.iload_n 3, 1) := by decide +kernel
theorem d_La_hold_7 : decode method_7_code 7 = .ok (.iload 4, 2) := by decide +kernel
theorem d_La_hold_9 : decode method_7_code 9 = .ok (.invokevirtual 34, 3) := by decide +kernel
theorem d_La_hold_12 : decode method_7_code 12 = .ok (.i2l, 1) := by decide +kernel
theorem d_La_hold_13 : decode method_7_code 13 = .ok (.lastore, 1) := by decide +kernel
theorem d_La_hold_14 : decode method_7_code 14 = .ok (.goto 19, 3) := by decide +kernel
theorem d_La_hold_17 : decode method_7_code 17 = .ok (.astore 6, 2) := by decide +kernel
theorem d_La_hold_19 : decode method_7_code 19 = .ok (.iconst 1, 1) := by decide +kernel
theorem d_La_hold_20 : decode method_7_code 20 = .ok (.ireturn, 1) := by decide +kernel
theorem d_La_hold_21 : decode method_7_code 21 = .ok (.astore 6, 2) := by decide +kernel
theorem d_La_hold_23 : decode method_7_code 23 = .ok (.iconst 2, 1) := by decide +kernel
theorem d_La_hold_24 : decode method_7_code 24 = .ok (.ireturn, 1) := by decide +kernel
theorem d_La_hold_25 : decode method_7_code 25 = .ok (.astore 6, 2) := by decide +kernel
theorem d_La_hold_27 : decode method_7_code 27 = .ok (.iconst 3, 1) := by decide +kernel
theorem d_La_hold_28 : decode method_7_code 28 = .ok (.ireturn, 1) := by decide +kernel
theorem d_La_hold_29 : decode method_7_code 29 = .ok (.astore 6, 2) := by decide +kernel
theorem d_La_hold_31 : decode method_7_code 31 = .ok (.iconst 4, 1) := by decide +kernel
theorem d_La_hold_32 : decode method_7_code 32 = .ok (.ireturn, 1) := by decide +kernel
theorem d_La_hold_33 : decode method_7_code 33 = .ok (.iconst 0, 1) := by decide +kernel
theorem d_La_hold_34 : decode method_7_code 34 = .ok (.ireturn, 1) := by decide +kernel
theorem d_La_export_0 : decode method_8_code 0 = .ok (.aload 6, 2) := by decide +kernel
theorem d_La_export_2 : decode method_8_code 2 = .ok (.iconst 0, 1) := by decide +kernel
theorem d_La_export_3 : decode method_8_code 3 = .ok (.aload_n 0, 1) := by decide +kernel
theorem d_La_export_4 : decode method_8_code 4 = .ok (.iload_n 1, 1) := by decide +kernel
theorem d_La_export_5 : decode method_8_code 5 = .ok (.iload_n 2, 1) := by decide +kernel
theorem d_La_export_6 : decode method_8_code 6 = .ok (.iload_n 3, 1) := by decide +kernel
theorem d_La_export_7 : decode method_8_code 7 = .ok (.iload 4, 2) := by decide +kernel
theorem d_La_export_9 : decode method_8_code 9 = .ok (.iload 5, 2) := by decide +kernel
theorem d_La_export_11 : decode method_8_code 11 = .ok (.invokevirtual 37, 3) := by decide +kernel
theorem d_La_export_14 : decode method_8_code 14 = .ok (.i2l, 1) := by decide +kernel
theorem d_La_export_15 : decode method_8_code 15 = .ok (.lastore, 1) := by decide +kernel
theorem d_La_export_16 : decode method_8_code 16 = .ok (.goto 19, 3) := by decide +kernel
theorem d_La_export_19 : decode method_8_code 19 = .ok (.astore 7, 2) := by decide +kernel
theorem d_La_export_21 : decode method_8_code 21 = .ok (.iconst 1, 1) := by decide +kernel
theorem d_La_export_22 : decode method_8_code 22 = .ok (.ireturn, 1) := by decide +kernel
theorem d_La_export_23 : decode method_8_code 23 = .ok (.astore 7, 2) := by decide +kernel
theorem d_La_export_25 : decode method_8_code 25 = .ok (.iconst 2, 1) := by decide +kernel
theorem d_La_export_26 : decode method_8_code 26 = .ok (.ireturn, 1) := by decide +kernel
theorem d_La_export_27 : decode method_8_code 27 = .ok (.astore 7, 2) := by decide +kernel
theorem d_La_export_29 : decode method_8_code 29 = .ok (.iconst 3, 1) := by decide +kernel
theorem d_La_export_30 : decode method_8_code 30 = .ok (.ireturn, 1) := by decide +kernel
theorem d_La_export_31 : decode method_8_code 31 = .ok (.astore 7, 2) := by decide +kernel
theorem d_La_export_33 : decode method_8_code 33 = .ok (.iconst 4, 1) := by decide +kernel
theorem d_La_export_34 : decode method_8_code 34 = .ok (.ireturn, 1) := by decide +kernel
theorem d_La_export_35 : decode method_8_code 35 = .ok (.iconst 0, 1) := by decide +kernel
theorem d_La_export_36 : decode method_8_code 36 = .ok (.ireturn, 1) := by decide +kernel
theorem d_La_narrow_0 : decode method_9_code 0 = .ok (.aload 5, 2) := by decide +kernel
theorem d_La_narrow_2 : decode method_9_code 2 = .ok (.iconst 0, 1) := by decide +kernel
theorem d_La_narrow_3 : decode method_9_code 3 = .ok (.aload_n 0, 1) := by decide +kernel
theorem d_La_narrow_4 : decode method_9_code 4 = .ok (.iload_n 1, 1) := by decide +kernel
theorem d_La_narrow_5 : decode method_9_code 5 = .ok (.iload_n 2, 1) := by decide +kernel
theorem d_La_narrow_6 : decode method_9_code 6 = .ok (.iload_n 3, 1) := by decide +kernel
theorem d_La_narrow_7 : decode method_9_code 7 = .ok (.iload 4, 2) := by decide +kernel
theorem d_La_narrow_9 : decode method_9_code 9 = .ok (.invokevirtual 41, 3) := by decide +kernel
theorem d_La_narrow_12 : decode method_9_code 12 = .ok (.i2l, 1) := by decide +kernel
theorem d_La_narrow_13 : decode method_9_code 13 = .ok (.lastore, 1) := by decide +kernel
theorem d_La_narrow_14 : decode method_9_code 14 = .ok (.goto 23, 3) := by decide +kernel
theorem d_La_narrow_17 : decode method_9_code 17 = .ok (.astore 6, 2) := by decide +kernel
theorem d_La_narrow_19 : decode method_9_code 19 = .ok (.iconst 1, 1) := by decide +kernel
theorem d_La_narrow_20 : decode method_9_code 20 = .ok (.ireturn, 1) := by decide +kernel
theorem d_La_narrow_21 : decode method_9_code 21 = .ok (.astore 6, 2) := by decide +kernel
theorem d_La_narrow_23 : decode method_9_code 23 = .ok (.iconst 2, 1) := by decide +kernel
theorem d_La_narrow_24 : decode method_9_code 24 = .ok (.ireturn, 1) := by decide +kernel
theorem d_La_narrow_25 : decode method_9_code 25 = .ok (.astore 6, 2) := by decide +kernel
theorem d_La_narrow_27 : decode method_9_code 27 = .ok (.iconst 3, 1) := by decide +kernel
theorem d_La_narrow_28 : decode method_9_code 28 = .ok (.ireturn, 1) := by decide +kernel
theorem d_La_narrow_29 : decode method_9_code 29 = .ok (.astore 6, 2) := by decide +kernel
theorem d_La_narrow_31 : decode method_9_code 31 = .ok (.iconst 4, 1) := by decide +kernel
theorem d_La_narrow_32 : decode method_9_code 32 = .ok (.ireturn, 1) := by decide +kernel
theorem d_La_narrow_33 : decode method_9_code 33 = .ok (.astore 6, 2) := by decide +kernel
theorem d_La_narrow_35 : decode method_9_code 35 = .ok (.iconst 5, 1) := by decide +kernel
theorem d_La_narrow_36 : decode method_9_code 36 = .ok (.ireturn, 1) := by decide +kernel
theorem d_La_narrow_37 : decode method_9_code 37 = .ok (.iconst 0, 1) := by decide +kernel
theorem d_La_narrow_38 : decode method_9_code 38 = .ok (.ireturn, 1) := by decide +kernel
theorem d_La_give_0 : decode method_10_code 0 = .ok (.aload 5, 2) := by decide +kernel
theorem d_La_give_2 : decode method_10_code 2 = .ok (.iconst 0, 1) := by decide +kernel
theorem d_La_give_3 : decode method_10_code 3 = .ok (.aload_n 0, 1) := by decide +kernel
theorem d_La_give_4 : decode method_10_code 4 = .ok (.iload_n 1, 1) := by decide +kernel
theorem d_La_give_5 : decode method_10_code 5 = .ok (.iload_n 2, 1) := by decide +kernel
theorem d_La_give_6 : decode method_10_code 6 = .ok (.iload_n 3, 1) := by decide +kernel
theorem d_La_give_7 : decode method_10_code 7 = .ok (.iload 4, 2) := by decide +kernel
theorem d_La_give_9 : decode method_10_code 9 = .ok (.invokevirtual 46, 3) := by decide +kernel
theorem d_La_give_12 : decode method_10_code 12 = .ok (.i2l, 1) := by decide +kernel
theorem d_La_give_13 : decode method_10_code 13 = .ok (.lastore, 1) := by decide +kernel
theorem d_La_give_14 : decode method_10_code 14 = .ok (.goto 15, 3) := by decide +kernel
theorem d_La_give_17 : decode method_10_code 17 = .ok (.astore 6, 2) := by decide +kernel
theorem d_La_give_19 : decode method_10_code 19 = .ok (.iconst 1, 1) := by decide +kernel
theorem d_La_give_20 : decode method_10_code 20 = .ok (.ireturn, 1) := by decide +kernel
theorem d_La_give_21 : decode method_10_code 21 = .ok (.astore 6, 2) := by decide +kernel
theorem d_La_give_23 : decode method_10_code 23 = .ok (.iconst 2, 1) := by decide +kernel
theorem d_La_give_24 : decode method_10_code 24 = .ok (.ireturn, 1) := by decide +kernel
theorem d_La_give_25 : decode method_10_code 25 = .ok (.astore 6, 2) := by decide +kernel
theorem d_La_give_27 : decode method_10_code 27 = .ok (.iconst 3, 1) := by decide +kernel
theorem d_La_give_28 : decode method_10_code 28 = .ok (.ireturn, 1) := by decide +kernel
theorem d_La_give_29 : decode method_10_code 29 = .ok (.iconst 0, 1) := by decide +kernel
theorem d_La_give_30 : decode method_10_code 30 = .ok (.ireturn, 1) := by decide +kernel
theorem d_La_revoke_0 : decode method_11_code 0 = .ok (.aload_n 3, 1) := by decide +kernel
theorem d_La_revoke_1 : decode method_11_code 1 = .ok (.iconst 0, 1) := by decide +kernel
theorem d_La_revoke_2 : decode method_11_code 2 = .ok (.aload_n 0, 1) := by decide +kernel
theorem d_La_revoke_3 : decode method_11_code 3 = .ok (.iload_n 1, 1) := by decide +kernel
theorem d_La_revoke_4 : decode method_11_code 4 = .ok (.iload_n 2, 1) := by decide +kernel
theorem d_La_revoke_5 : decode method_11_code 5 = .ok (.invokevirtual 49, 3) := by decide +kernel
theorem d_La_revoke_8 : decode method_11_code 8 = .ok (.i2l, 1) := by decide +kernel
theorem d_La_revoke_9 : decode method_11_code 9 = .ok (.lastore, 1) := by decide +kernel
theorem d_La_revoke_10 : decode method_11_code 10 = .ok (.goto 19, 3) := by decide +kernel
theorem d_La_revoke_13 : decode method_11_code 13 = .ok (.astore 4, 2) := by decide +kernel
theorem d_La_revoke_15 : decode method_11_code 15 = .ok (.iconst 1, 1) := by decide +kernel
theorem d_La_revoke_16 : decode method_11_code 16 = .ok (.ireturn, 1) := by decide +kernel
theorem d_La_revoke_17 : decode method_11_code 17 = .ok (.astore 4, 2) := by decide +kernel
theorem d_La_revoke_19 : decode method_11_code 19 = .ok (.iconst 2, 1) := by decide +kernel
theorem d_La_revoke_20 : decode method_11_code 20 = .ok (.ireturn, 1) := by decide +kernel
theorem d_La_revoke_21 : decode method_11_code 21 = .ok (.astore 4, 2) := by decide +kernel
theorem d_La_revoke_23 : decode method_11_code 23 = .ok (.iconst 3, 1) := by decide +kernel
theorem d_La_revoke_24 : decode method_11_code 24 = .ok (.ireturn, 1) := by decide +kernel
theorem d_La_revoke_25 : decode method_11_code 25 = .ok (.astore 4, 2) := by decide +kernel
theorem d_La_revoke_27 : decode method_11_code 27 = .ok (.iconst 4, 1) := by decide +kernel
theorem d_La_revoke_28 : decode method_11_code 28 = .ok (.ireturn, 1) := by decide +kernel
theorem d_La_revoke_29 : decode method_11_code 29 = .ok (.iconst 0, 1) := by decide +kernel
theorem d_La_revoke_30 : decode method_11_code 30 = .ok (.ireturn, 1) := by decide +kernel
theorem d_La_read_0 : decode method_12_code 0 = .ok (.aload 4, 2) := by decide +kernel
theorem d_La_read_2 : decode method_12_code 2 = .ok (.iconst 0, 1) := by decide +kernel
theorem d_La_read_3 : decode method_12_code 3 = .ok (.aload_n 0, 1) := by decide +kernel
theorem d_La_read_4 : decode method_12_code 4 = .ok (.iload_n 1, 1) := by decide +kernel
theorem d_La_read_5 : decode method_12_code 5 = .ok (.iload_n 2, 1) := by decide +kernel
theorem d_La_read_6 : decode method_12_code 6 = .ok (.iload_n 3, 1) := by decide +kernel
theorem d_La_read_7 : decode method_12_code 7 = .ok (.invokevirtual 53, 3) := by decide +kernel
theorem d_La_read_10 : decode method_12_code 10 = .ok (.i2l, 1) := by decide +kernel
theorem d_La_read_11 : decode method_12_code 11 = .ok (.lastore, 1) := by decide +kernel
theorem d_La_read_12 : decode method_12_code 12 = .ok (.goto 28, 3) := by decide +kernel
theorem d_La_read_15 : decode method_12_code 15 = .ok (.astore 5, 2) := by decide +kernel
theorem d_La_read_17 : decode method_12_code 17 = .ok (.iconst 1, 1) := by decide +kernel
theorem d_La_read_18 : decode method_12_code 18 = .ok (.ireturn, 1) := by decide +kernel
theorem d_La_read_19 : decode method_12_code 19 = .ok (.astore 5, 2) := by decide +kernel
theorem d_La_read_21 : decode method_12_code 21 = .ok (.iconst 2, 1) := by decide +kernel
theorem d_La_read_22 : decode method_12_code 22 = .ok (.ireturn, 1) := by decide +kernel
theorem d_La_read_23 : decode method_12_code 23 = .ok (.astore 5, 2) := by decide +kernel
theorem d_La_read_25 : decode method_12_code 25 = .ok (.iconst 3, 1) := by decide +kernel
theorem d_La_read_26 : decode method_12_code 26 = .ok (.ireturn, 1) := by decide +kernel
theorem d_La_read_27 : decode method_12_code 27 = .ok (.astore 5, 2) := by decide +kernel
theorem d_La_read_29 : decode method_12_code 29 = .ok (.iconst 4, 1) := by decide +kernel
theorem d_La_read_30 : decode method_12_code 30 = .ok (.ireturn, 1) := by decide +kernel
theorem d_La_read_31 : decode method_12_code 31 = .ok (.astore 5, 2) := by decide +kernel
theorem d_La_read_33 : decode method_12_code 33 = .ok (.iconst 5, 1) := by decide +kernel
theorem d_La_read_34 : decode method_12_code 34 = .ok (.ireturn, 1) := by decide +kernel
theorem d_La_read_35 : decode method_12_code 35 = .ok (.astore 5, 2) := by decide +kernel
theorem d_La_read_37 : decode method_12_code 37 = .ok (.bipush 6, 2) := by decide +kernel
theorem d_La_read_39 : decode method_12_code 39 = .ok (.ireturn, 1) := by decide +kernel
theorem d_La_read_40 : decode method_12_code 40 = .ok (.iconst 0, 1) := by decide +kernel
theorem d_La_read_41 : decode method_12_code 41 = .ok (.ireturn, 1) := by decide +kernel
theorem d_La_write_0 : decode method_13_code 0 = .ok (.aload 5, 2) := by decide +kernel
theorem d_La_write_2 : decode method_13_code 2 = .ok (.iconst 0, 1) := by decide +kernel
theorem d_La_write_3 : decode method_13_code 3 = .ok (.aload_n 0, 1) := by decide +kernel
theorem d_La_write_4 : decode method_13_code 4 = .ok (.iload_n 1, 1) := by decide +kernel
theorem d_La_write_5 : decode method_13_code 5 = .ok (.iload_n 2, 1) := by decide +kernel
theorem d_La_write_6 : decode method_13_code 6 = .ok (.iload_n 3, 1) := by decide +kernel
theorem d_La_write_7 : decode method_13_code 7 = .ok (.iload 4, 2) := by decide +kernel
theorem d_La_write_9 : decode method_13_code 9 = .ok (.invokevirtual 57, 3) := by decide +kernel
theorem d_La_write_12 : decode method_13_code 12 = .ok (.i2l, 1) := by decide +kernel
theorem d_La_write_13 : decode method_13_code 13 = .ok (.lastore, 1) := by decide +kernel
theorem d_La_write_14 : decode method_13_code 14 = .ok (.goto 23, 3) := by decide +kernel
theorem d_La_write_17 : decode method_13_code 17 = .ok (.astore 6, 2) := by decide +kernel
theorem d_La_write_19 : decode method_13_code 19 = .ok (.iconst 1, 1) := by decide +kernel
theorem d_La_write_20 : decode method_13_code 20 = .ok (.ireturn, 1) := by decide +kernel
theorem d_La_write_21 : decode method_13_code 21 = .ok (.astore 6, 2) := by decide +kernel
theorem d_La_write_23 : decode method_13_code 23 = .ok (.iconst 2, 1) := by decide +kernel
theorem d_La_write_24 : decode method_13_code 24 = .ok (.ireturn, 1) := by decide +kernel
theorem d_La_write_25 : decode method_13_code 25 = .ok (.astore 6, 2) := by decide +kernel
theorem d_La_write_27 : decode method_13_code 27 = .ok (.iconst 3, 1) := by decide +kernel
theorem d_La_write_28 : decode method_13_code 28 = .ok (.ireturn, 1) := by decide +kernel
theorem d_La_write_29 : decode method_13_code 29 = .ok (.astore 6, 2) := by decide +kernel
theorem d_La_write_31 : decode method_13_code 31 = .ok (.iconst 4, 1) := by decide +kernel
theorem d_La_write_32 : decode method_13_code 32 = .ok (.ireturn, 1) := by decide +kernel
theorem d_La_write_33 : decode method_13_code 33 = .ok (.astore 6, 2) := by decide +kernel
theorem d_La_write_35 : decode method_13_code 35 = .ok (.iconst 5, 1) := by decide +kernel
theorem d_La_write_36 : decode method_13_code 36 = .ok (.ireturn, 1) := by decide +kernel
theorem d_La_write_37 : decode method_13_code 37 = .ok (.iconst 0, 1) := by decide +kernel
theorem d_La_write_38 : decode method_13_code 38 = .ok (.ireturn, 1) := by decide +kernel
theorem d_La_pass_0 : decode method_14_code 0 = .ok (.aload 5, 2) := by decide +kernel
theorem d_La_pass_2 : decode method_14_code 2 = .ok (.iconst 0, 1) := by decide +kernel
theorem d_La_pass_3 : decode method_14_code 3 = .ok (.aload_n 0, 1) := by decide +kernel
theorem d_La_pass_4 : decode method_14_code 4 = .ok (.iload_n 1, 1) := by decide +kernel
theorem d_La_pass_5 : decode method_14_code 5 = .ok (.iload_n 2, 1) := by decide +kernel
theorem d_La_pass_6 : decode method_14_code 6 = .ok (.iload_n 3, 1) := by decide +kernel
theorem d_La_pass_7 : decode method_14_code 7 = .ok (.iload 4, 2) := by decide +kernel
theorem d_La_pass_9 : decode method_14_code 9 = .ok (.invokevirtual 60, 3) := by decide +kernel
theorem d_La_pass_12 : decode method_14_code 12 = .ok (.i2l, 1) := by decide +kernel
theorem d_La_pass_13 : decode method_14_code 13 = .ok (.lastore, 1) := by decide +kernel
theorem d_La_pass_14 : decode method_14_code 14 = .ok (.goto 28, 3) := by decide +kernel
theorem d_La_pass_17 : decode method_14_code 17 = .ok (.astore 6, 2) := by decide +kernel
theorem d_La_pass_19 : decode method_14_code 19 = .ok (.iconst 1, 1) := by decide +kernel
theorem d_La_pass_20 : decode method_14_code 20 = .ok (.ireturn, 1) := by decide +kernel
theorem d_La_pass_21 : decode method_14_code 21 = .ok (.astore 6, 2) := by decide +kernel
theorem d_La_pass_23 : decode method_14_code 23 = .ok (.iconst 2, 1) := by decide +kernel
theorem d_La_pass_24 : decode method_14_code 24 = .ok (.ireturn, 1) := by decide +kernel
theorem d_La_pass_25 : decode method_14_code 25 = .ok (.astore 6, 2) := by decide +kernel
theorem d_La_pass_27 : decode method_14_code 27 = .ok (.iconst 3, 1) := by decide +kernel
theorem d_La_pass_28 : decode method_14_code 28 = .ok (.ireturn, 1) := by decide +kernel
theorem d_La_pass_29 : decode method_14_code 29 = .ok (.astore 6, 2) := by decide +kernel
theorem d_La_pass_31 : decode method_14_code 31 = .ok (.iconst 4, 1) := by decide +kernel
theorem d_La_pass_32 : decode method_14_code 32 = .ok (.ireturn, 1) := by decide +kernel
theorem d_La_pass_33 : decode method_14_code 33 = .ok (.astore 6, 2) := by decide +kernel
theorem d_La_pass_35 : decode method_14_code 35 = .ok (.iconst 5, 1) := by decide +kernel
theorem d_La_pass_36 : decode method_14_code 36 = .ok (.ireturn, 1) := by decide +kernel
theorem d_La_pass_37 : decode method_14_code 37 = .ok (.astore 6, 2) := by decide +kernel
theorem d_La_pass_39 : decode method_14_code 39 = .ok (.bipush 6, 2) := by decide +kernel
theorem d_La_pass_41 : decode method_14_code 41 = .ok (.ireturn, 1) := by decide +kernel
theorem d_La_pass_42 : decode method_14_code 42 = .ok (.iconst 0, 1) := by decide +kernel
theorem d_La_pass_43 : decode method_14_code 43 = .ok (.ireturn, 1) := by decide +kernel
theorem d_La_take_0 : decode method_15_code 0 = .ok (.aload 5, 2) := by decide +kernel
theorem d_La_take_2 : decode method_15_code 2 = .ok (.iconst 0, 1) := by decide +kernel
theorem d_La_take_3 : decode method_15_code 3 = .ok (.aload_n 0, 1) := by decide +kernel
theorem d_La_take_4 : decode method_15_code 4 = .ok (.iload_n 1, 1) := by decide +kernel
theorem d_La_take_5 : decode method_15_code 5 = .ok (.iload_n 2, 1) := by decide +kernel
theorem d_La_take_6 : decode method_15_code 6 = .ok (.iload_n 3, 1) := by decide +kernel
theorem d_La_take_7 : decode method_15_code 7 = .ok (.iload 4, 2) := by decide +kernel
theorem d_La_take_9 : decode method_15_code 9 = .ok (.invokevirtual 63, 3) := by decide +kernel
theorem d_La_take_12 : decode method_15_code 12 = .ok (.i2l, 1) := by decide +kernel
theorem d_La_take_13 : decode method_15_code 13 = .ok (.lastore, 1) := by decide +kernel
theorem d_La_take_14 : decode method_15_code 14 = .ok (.goto 28, 3) := by decide +kernel
theorem d_La_take_17 : decode method_15_code 17 = .ok (.astore 6, 2) := by decide +kernel
theorem d_La_take_19 : decode method_15_code 19 = .ok (.iconst 1, 1) := by decide +kernel
theorem d_La_take_20 : decode method_15_code 20 = .ok (.ireturn, 1) := by decide +kernel
theorem d_La_take_21 : decode method_15_code 21 = .ok (.astore 6, 2) := by decide +kernel
theorem d_La_take_23 : decode method_15_code 23 = .ok (.iconst 2, 1) := by decide +kernel
theorem d_La_take_24 : decode method_15_code 24 = .ok (.ireturn, 1) := by decide +kernel
theorem d_La_take_25 : decode method_15_code 25 = .ok (.astore 6, 2) := by decide +kernel
theorem d_La_take_27 : decode method_15_code 27 = .ok (.iconst 3, 1) := by decide +kernel
theorem d_La_take_28 : decode method_15_code 28 = .ok (.ireturn, 1) := by decide +kernel
theorem d_La_take_29 : decode method_15_code 29 = .ok (.astore 6, 2) := by decide +kernel
theorem d_La_take_31 : decode method_15_code 31 = .ok (.iconst 4, 1) := by decide +kernel
theorem d_La_take_32 : decode method_15_code 32 = .ok (.ireturn, 1) := by decide +kernel
theorem d_La_take_33 : decode method_15_code 33 = .ok (.astore 6, 2) := by decide +kernel
theorem d_La_take_35 : decode method_15_code 35 = .ok (.iconst 5, 1) := by decide +kernel
theorem d_La_take_36 : decode method_15_code 36 = .ok (.ireturn, 1) := by decide +kernel
theorem d_La_take_37 : decode method_15_code 37 = .ok (.astore 6, 2) := by decide +kernel
theorem d_La_take_39 : decode method_15_code 39 = .ok (.bipush 6, 2) := by decide +kernel
theorem d_La_take_41 : decode method_15_code 41 = .ok (.ireturn, 1) := by decide +kernel
theorem d_La_take_42 : decode method_15_code 42 = .ok (.iconst 0, 1) := by decide +kernel
theorem d_La_take_43 : decode method_15_code 43 = .ok (.ireturn, 1) := by decide +kernel
theorem d_La_free_0 : decode method_16_code 0 = .ok (.aload_n 3, 1) := by decide +kernel
theorem d_La_free_1 : decode method_16_code 1 = .ok (.iconst 0, 1) := by decide +kernel
theorem d_La_free_2 : decode method_16_code 2 = .ok (.aload_n 0, 1) := by decide +kernel
theorem d_La_free_3 : decode method_16_code 3 = .ok (.iload_n 1, 1) := by decide +kernel
theorem d_La_free_4 : decode method_16_code 4 = .ok (.iload_n 2, 1) := by decide +kernel
theorem d_La_free_5 : decode method_16_code 5 = .ok (.invokevirtual 66, 3) := by decide +kernel
theorem d_La_free_8 : decode method_16_code 8 = .ok (.i2l, 1) := by decide +kernel
theorem d_La_free_9 : decode method_16_code 9 = .ok (.lastore, 1) := by decide +kernel
theorem d_La_free_10 : decode method_16_code 10 = .ok (.goto 19, 3) := by decide +kernel
theorem d_La_free_13 : decode method_16_code 13 = .ok (.astore 4, 2) := by decide +kernel
theorem d_La_free_15 : decode method_16_code 15 = .ok (.iconst 1, 1) := by decide +kernel
theorem d_La_free_16 : decode method_16_code 16 = .ok (.ireturn, 1) := by decide +kernel
theorem d_La_free_17 : decode method_16_code 17 = .ok (.astore 4, 2) := by decide +kernel
theorem d_La_free_19 : decode method_16_code 19 = .ok (.iconst 2, 1) := by decide +kernel
theorem d_La_free_20 : decode method_16_code 20 = .ok (.ireturn, 1) := by decide +kernel
theorem d_La_free_21 : decode method_16_code 21 = .ok (.astore 4, 2) := by decide +kernel
theorem d_La_free_23 : decode method_16_code 23 = .ok (.iconst 3, 1) := by decide +kernel
theorem d_La_free_24 : decode method_16_code 24 = .ok (.ireturn, 1) := by decide +kernel
theorem d_La_free_25 : decode method_16_code 25 = .ok (.astore 4, 2) := by decide +kernel
theorem d_La_free_27 : decode method_16_code 27 = .ok (.iconst 4, 1) := by decide +kernel
theorem d_La_free_28 : decode method_16_code 28 = .ok (.ireturn, 1) := by decide +kernel
theorem d_La_free_29 : decode method_16_code 29 = .ok (.iconst 0, 1) := by decide +kernel
theorem d_La_free_30 : decode method_16_code 30 = .ok (.ireturn, 1) := by decide +kernel
theorem d_La_end_0 : decode method_17_code 0 = .ok (.aload_n 2, 1) := by decide +kernel
theorem d_La_end_1 : decode method_17_code 1 = .ok (.iconst 0, 1) := by decide +kernel
theorem d_La_end_2 : decode method_17_code 2 = .ok (.aload_n 0, 1) := by decide +kernel
theorem d_La_end_3 : decode method_17_code 3 = .ok (.iload_n 1, 1) := by decide +kernel
theorem d_La_end_4 : decode method_17_code 4 = .ok (.invokevirtual 69, 3) := by decide +kernel
theorem d_La_end_7 : decode method_17_code 7 = .ok (.i2l, 1) := by decide +kernel
theorem d_La_end_8 : decode method_17_code 8 = .ok (.lastore, 1) := by decide +kernel
theorem d_La_end_9 : decode method_17_code 9 = .ok (.goto 9, 3) := by decide +kernel
theorem d_La_end_12 : decode method_17_code 12 = .ok (.astore_n 3, 1) := by decide +kernel
theorem d_La_end_13 : decode method_17_code 13 = .ok (.iconst 1, 1) := by decide +kernel
theorem d_La_end_14 : decode method_17_code 14 = .ok (.ireturn, 1) := by decide +kernel
theorem d_La_end_15 : decode method_17_code 15 = .ok (.astore_n 3, 1) := by decide +kernel
theorem d_La_end_16 : decode method_17_code 16 = .ok (.iconst 2, 1) := by decide +kernel
theorem d_La_end_17 : decode method_17_code 17 = .ok (.ireturn, 1) := by decide +kernel
theorem d_La_end_18 : decode method_17_code 18 = .ok (.iconst 0, 1) := by decide +kernel
theorem d_La_end_19 : decode method_17_code 19 = .ok (.ireturn, 1) := by decide +kernel
theorem d_La_law_0 : decode code 0 = .ok (.new 8, 3) := by decide +kernel
theorem d_La_law_3 : decode code 3 = .ok (.dup, 1) := by decide +kernel
theorem d_La_law_4 : decode code 4 = .ok (.invokespecial 72, 3) := by decide +kernel
theorem d_La_law_7 : decode code 7 = .ok (.astore_n 1, 1) := by decide +kernel
theorem d_La_law_8 : decode code 8 = .ok (.new 73, 3) := by decide +kernel
theorem d_La_law_11 : decode code 11 = .ok (.dup, 1) := by decide +kernel
theorem d_La_law_12 : decode code 12 = .ok (.invokespecial 75, 3) := by decide +kernel
theorem d_La_law_15 : decode code 15 = .ok (.astore_n 2, 1) := by decide +kernel
theorem d_La_law_16 : decode code 16 = .ok (.iconst 1, 1) := by decide +kernel
theorem d_La_law_17 : decode code 17 = .ok (.newarray .long, 2) := by decide +kernel
theorem d_La_law_19 : decode code 19 = .ok (.astore_n 3, 1) := by decide +kernel
theorem d_La_law_20 : decode code 20 = .ok (.iconst 0, 1) := by decide +kernel
theorem d_La_law_21 : decode code 21 = .ok (.istore 4, 2) := by decide +kernel
theorem d_La_law_23 : decode code 23 = .ok (.iload 4, 2) := by decide +kernel
theorem d_La_law_25 : decode code 25 = .ok (.aload_n 0, 1) := by decide +kernel
theorem d_La_law_26 : decode code 26 = .ok (.arraylength, 1) := by decide +kernel
theorem d_La_law_27 : decode code 27 = .ok (.bipush 6, 2) := by decide +kernel
theorem d_La_law_29 : decode code 29 = .ok (.isub, 1) := by decide +kernel
theorem d_La_law_30 : decode code 30 = .ok (.if_icmp .gt 1480, 3) := by decide +kernel
theorem d_La_law_33 : decode code 33 = .ok (.aload_n 0, 1) := by decide +kernel
theorem d_La_law_34 : decode code 34 = .ok (.iload 4, 2) := by decide +kernel
theorem d_La_law_36 : decode code 36 = .ok (.iaload, 1) := by decide +kernel
theorem d_La_law_37 : decode code 37 = .ok (.bipush 31, 2) := by decide +kernel
theorem d_La_law_39 : decode code 39 = .ok (.iand, 1) := by decide +kernel
theorem d_La_law_40 : decode code 40 = .ok (.tableswitch 1464 0 18 #[92, 136, 192, 284, 376, 468, 572, 664, 756, 824, 904, 996, 1088, 1180, 1248, 1304, 1353, 1402, 1439], 92) := by decide +kernel
theorem d_La_law_132 : decode code 132 = .ok (.aload_n 1, 1) := by decide +kernel
theorem d_La_law_133 : decode code 133 = .ok (.aload_n 3, 1) := by decide +kernel
theorem d_La_law_134 : decode code 134 = .ok (.invokestatic 76, 3) := by decide +kernel
theorem d_La_law_137 : decode code 137 = .ok (.istore 5, 2) := by decide +kernel
theorem d_La_law_139 : decode code 139 = .ok (.aload_n 2, 1) := by decide +kernel
theorem d_La_law_140 : decode code 140 = .ok (.invokevirtual 81, 3) := by decide +kernel
theorem d_La_law_143 : decode code 143 = .ok (.istore 6, 2) := by decide +kernel
theorem d_La_law_145 : decode code 145 = .ok (.aload_n 2, 1) := by decide +kernel
theorem d_La_law_146 : decode code 146 = .ok (.invokevirtual 82, 3) := by decide +kernel
theorem d_La_law_149 : decode code 149 = .ok (.iload 5, 2) := by decide +kernel
theorem d_La_law_151 : decode code 151 = .ok (.if_icmp .eq 5, 3) := by decide +kernel
theorem d_La_law_154 : decode code 154 = .ok (.iconst 0, 1) := by decide +kernel
theorem d_La_law_155 : decode code 155 = .ok (.ireturn, 1) := by decide +kernel
theorem d_La_law_156 : decode code 156 = .ok (.iload 5, 2) := by decide +kernel
theorem d_La_law_158 : decode code 158 = .ok (.ifCond .ne 15, 3) := by decide +kernel
theorem d_La_law_161 : decode code 161 = .ok (.aload_n 3, 1) := by decide +kernel
theorem d_La_law_162 : decode code 162 = .ok (.iconst 0, 1) := by decide +kernel
theorem d_La_law_163 : decode code 163 = .ok (.laload, 1) := by decide +kernel
theorem d_La_law_164 : decode code 164 = .ok (.iload 6, 2) := by decide +kernel
theorem d_La_law_166 : decode code 166 = .ok (.i2l, 1) := by decide +kernel
theorem d_La_law_167 : decode code 167 = .ok (.lcmp, 1) := by decide +kernel
theorem d_La_law_168 : decode code 168 = .ok (.ifCond .eq 5, 3) := by decide +kernel
theorem d_La_law_171 : decode code 171 = .ok (.iconst 0, 1) := by decide +kernel
theorem d_La_law_172 : decode code 172 = .ok (.ireturn, 1) := by decide +kernel
theorem d_La_law_173 : decode code 173 = .ok (.goto 1331, 3) := by decide +kernel
theorem d_La_law_176 : decode code 176 = .ok (.aload_n 1, 1) := by decide +kernel
theorem d_La_law_177 : decode code 177 = .ok (.aload_n 0, 1) := by decide +kernel
theorem d_La_law_178 : decode code 178 = .ok (.iload 4, 2) := by decide +kernel
theorem d_La_law_180 : decode code 180 = .ok (.iconst 1, 1) := by decide +kernel
theorem d_La_law_181 : decode code 181 = .ok (.iadd, 1) := by decide +kernel
theorem d_La_law_182 : decode code 182 = .ok (.iaload, 1) := by decide +kernel
theorem d_La_law_183 : decode code 183 = .ok (.aload_n 3, 1) := by decide +kernel
theorem d_La_law_184 : decode code 184 = .ok (.invokestatic 85, 3) := by decide +kernel
theorem d_La_law_187 : decode code 187 = .ok (.istore 5, 2) := by decide +kernel
theorem d_La_law_189 : decode code 189 = .ok (.aload_n 2, 1) := by decide +kernel
theorem d_La_law_190 : decode code 190 = .ok (.aload_n 0, 1) := by decide +kernel
theorem d_La_law_191 : decode code 191 = .ok (.iload 4, 2) := by decide +kernel
theorem d_La_law_193 : decode code 193 = .ok (.iconst 1, 1) := by decide +kernel
theorem d_La_law_194 : decode code 194 = .ok (.iadd, 1) := by decide +kernel
theorem d_La_law_195 : decode code 195 = .ok (.iaload, 1) := by decide +kernel
theorem d_La_law_196 : decode code 196 = .ok (.invokevirtual 88, 3) := by decide +kernel
theorem d_La_law_199 : decode code 199 = .ok (.istore 6, 2) := by decide +kernel
theorem d_La_law_201 : decode code 201 = .ok (.aload_n 2, 1) := by decide +kernel
theorem d_La_law_202 : decode code 202 = .ok (.invokevirtual 82, 3) := by decide +kernel
theorem d_La_law_205 : decode code 205 = .ok (.iload 5, 2) := by decide +kernel
theorem d_La_law_207 : decode code 207 = .ok (.if_icmp .eq 5, 3) := by decide +kernel
theorem d_La_law_210 : decode code 210 = .ok (.iconst 0, 1) := by decide +kernel
theorem d_La_law_211 : decode code 211 = .ok (.ireturn, 1) := by decide +kernel
theorem d_La_law_212 : decode code 212 = .ok (.iload 5, 2) := by decide +kernel
theorem d_La_law_214 : decode code 214 = .ok (.ifCond .ne 15, 3) := by decide +kernel
theorem d_La_law_217 : decode code 217 = .ok (.aload_n 3, 1) := by decide +kernel
theorem d_La_law_218 : decode code 218 = .ok (.iconst 0, 1) := by decide +kernel
theorem d_La_law_219 : decode code 219 = .ok (.laload, 1) := by decide +kernel
theorem d_La_law_220 : decode code 220 = .ok (.iload 6, 2) := by decide +kernel
theorem d_La_law_222 : decode code 222 = .ok (.i2l, 1) := by decide +kernel
theorem d_La_law_223 : decode code 223 = .ok (.lcmp, 1) := by decide +kernel
theorem d_La_law_224 : decode code 224 = .ok (.ifCond .eq 5, 3) := by decide +kernel
theorem d_La_law_227 : decode code 227 = .ok (.iconst 0, 1) := by decide +kernel
theorem d_La_law_228 : decode code 228 = .ok (.ireturn, 1) := by decide +kernel
theorem d_La_law_229 : decode code 229 = .ok (.goto 1275, 3) := by decide +kernel
theorem d_La_law_232 : decode code 232 = .ok (.aload_n 1, 1) := by decide +kernel
theorem d_La_law_233 : decode code 233 = .ok (.aload_n 0, 1) := by decide +kernel
theorem d_La_law_234 : decode code 234 = .ok (.iload 4, 2) := by decide +kernel
theorem d_La_law_236 : decode code 236 = .ok (.iconst 1, 1) := by decide +kernel
theorem d_La_law_237 : decode code 237 = .ok (.iadd, 1) := by decide +kernel
theorem d_La_law_238 : decode code 238 = .ok (.iaload, 1) := by decide +kernel
theorem d_La_law_239 : decode code 239 = .ok (.aload_n 0, 1) := by decide +kernel
theorem d_La_law_240 : decode code 240 = .ok (.iload 4, 2) := by decide +kernel
theorem d_La_law_242 : decode code 242 = .ok (.iconst 2, 1) := by decide +kernel
theorem d_La_law_243 : decode code 243 = .ok (.iadd, 1) := by decide +kernel
theorem d_La_law_244 : decode code 244 = .ok (.iaload, 1) := by decide +kernel
theorem d_La_law_245 : decode code 245 = .ok (.aload_n 0, 1) := by decide +kernel
theorem d_La_law_246 : decode code 246 = .ok (.iload 4, 2) := by decide +kernel
theorem d_La_law_248 : decode code 248 = .ok (.iconst 3, 1) := by decide +kernel
theorem d_La_law_249 : decode code 249 = .ok (.iadd, 1) := by decide +kernel
theorem d_La_law_250 : decode code 250 = .ok (.iaload, 1) := by decide +kernel
theorem d_La_law_251 : decode code 251 = .ok (.aload_n 0, 1) := by decide +kernel
theorem d_La_law_252 : decode code 252 = .ok (.iload 4, 2) := by decide +kernel
theorem d_La_law_254 : decode code 254 = .ok (.iconst 4, 1) := by decide +kernel
theorem d_La_law_255 : decode code 255 = .ok (.iadd, 1) := by decide +kernel
theorem d_La_law_256 : decode code 256 = .ok (.iaload, 1) := by decide +kernel
theorem d_La_law_257 : decode code 257 = .ok (.aload_n 3, 1) := by decide +kernel
theorem d_La_law_258 : decode code 258 = .ok (.invokestatic 89, 3) := by decide +kernel
theorem d_La_law_261 : decode code 261 = .ok (.istore 5, 2) := by decide +kernel
theorem d_La_law_263 : decode code 263 = .ok (.aload_n 2, 1) := by decide +kernel
theorem d_La_law_264 : decode code 264 = .ok (.aload_n 0, 1) := by decide +kernel
theorem d_La_law_265 : decode code 265 = .ok (.iload 4, 2) := by decide +kernel
theorem d_La_law_267 : decode code 267 = .ok (.iconst 1, 1) := by decide +kernel
theorem d_La_law_268 : decode code 268 = .ok (.iadd, 1) := by decide +kernel
theorem d_La_law_269 : decode code 269 = .ok (.iaload, 1) := by decide +kernel
theorem d_La_law_270 : decode code 270 = .ok (.aload_n 0, 1) := by decide +kernel
theorem d_La_law_271 : decode code 271 = .ok (.iload 4, 2) := by decide +kernel
theorem d_La_law_273 : decode code 273 = .ok (.iconst 2, 1) := by decide +kernel
theorem d_La_law_274 : decode code 274 = .ok (.iadd, 1) := by decide +kernel
theorem d_La_law_275 : decode code 275 = .ok (.iaload, 1) := by decide +kernel
theorem d_La_law_276 : decode code 276 = .ok (.aload_n 0, 1) := by decide +kernel
theorem d_La_law_277 : decode code 277 = .ok (.iload 4, 2) := by decide +kernel
theorem d_La_law_279 : decode code 279 = .ok (.iconst 3, 1) := by decide +kernel
theorem d_La_law_280 : decode code 280 = .ok (.iadd, 1) := by decide +kernel
theorem d_La_law_281 : decode code 281 = .ok (.iaload, 1) := by decide +kernel
theorem d_La_law_282 : decode code 282 = .ok (.aload_n 0, 1) := by decide +kernel
theorem d_La_law_283 : decode code 283 = .ok (.iload 4, 2) := by decide +kernel
theorem d_La_law_285 : decode code 285 = .ok (.iconst 4, 1) := by decide +kernel
theorem d_La_law_286 : decode code 286 = .ok (.iadd, 1) := by decide +kernel
theorem d_La_law_287 : decode code 287 = .ok (.iaload, 1) := by decide +kernel
theorem d_La_law_288 : decode code 288 = .ok (.invokevirtual 92, 3) := by decide +kernel
theorem d_La_law_291 : decode code 291 = .ok (.istore 6, 2) := by decide +kernel
theorem d_La_law_293 : decode code 293 = .ok (.aload_n 2, 1) := by decide +kernel
theorem d_La_law_294 : decode code 294 = .ok (.invokevirtual 82, 3) := by decide +kernel
theorem d_La_law_297 : decode code 297 = .ok (.iload 5, 2) := by decide +kernel
theorem d_La_law_299 : decode code 299 = .ok (.if_icmp .eq 5, 3) := by decide +kernel
theorem d_La_law_302 : decode code 302 = .ok (.iconst 0, 1) := by decide +kernel
theorem d_La_law_303 : decode code 303 = .ok (.ireturn, 1) := by decide +kernel
theorem d_La_law_304 : decode code 304 = .ok (.iload 5, 2) := by decide +kernel
theorem d_La_law_306 : decode code 306 = .ok (.ifCond .ne 15, 3) := by decide +kernel
theorem d_La_law_309 : decode code 309 = .ok (.aload_n 3, 1) := by decide +kernel
theorem d_La_law_310 : decode code 310 = .ok (.iconst 0, 1) := by decide +kernel
theorem d_La_law_311 : decode code 311 = .ok (.laload, 1) := by decide +kernel
theorem d_La_law_312 : decode code 312 = .ok (.iload 6, 2) := by decide +kernel
theorem d_La_law_314 : decode code 314 = .ok (.i2l, 1) := by decide +kernel
theorem d_La_law_315 : decode code 315 = .ok (.lcmp, 1) := by decide +kernel
theorem d_La_law_316 : decode code 316 = .ok (.ifCond .eq 5, 3) := by decide +kernel
theorem d_La_law_319 : decode code 319 = .ok (.iconst 0, 1) := by decide +kernel
theorem d_La_law_320 : decode code 320 = .ok (.ireturn, 1) := by decide +kernel
theorem d_La_law_321 : decode code 321 = .ok (.goto 1183, 3) := by decide +kernel
theorem d_La_law_324 : decode code 324 = .ok (.aload_n 1, 1) := by decide +kernel
theorem d_La_law_325 : decode code 325 = .ok (.aload_n 0, 1) := by decide +kernel
theorem d_La_law_326 : decode code 326 = .ok (.iload 4, 2) := by decide +kernel
theorem d_La_law_328 : decode code 328 = .ok (.iconst 1, 1) := by decide +kernel
theorem d_La_law_329 : decode code 329 = .ok (.iadd, 1) := by decide +kernel
theorem d_La_law_330 : decode code 330 = .ok (.iaload, 1) := by decide +kernel
theorem d_La_law_331 : decode code 331 = .ok (.aload_n 0, 1) := by decide +kernel
theorem d_La_law_332 : decode code 332 = .ok (.iload 4, 2) := by decide +kernel
theorem d_La_law_334 : decode code 334 = .ok (.iconst 2, 1) := by decide +kernel
theorem d_La_law_335 : decode code 335 = .ok (.iadd, 1) := by decide +kernel
theorem d_La_law_336 : decode code 336 = .ok (.iaload, 1) := by decide +kernel
theorem d_La_law_337 : decode code 337 = .ok (.aload_n 0, 1) := by decide +kernel
theorem d_La_law_338 : decode code 338 = .ok (.iload 4, 2) := by decide +kernel
theorem d_La_law_340 : decode code 340 = .ok (.iconst 3, 1) := by decide +kernel
theorem d_La_law_341 : decode code 341 = .ok (.iadd, 1) := by decide +kernel
theorem d_La_law_342 : decode code 342 = .ok (.iaload, 1) := by decide +kernel
theorem d_La_law_343 : decode code 343 = .ok (.aload_n 0, 1) := by decide +kernel
theorem d_La_law_344 : decode code 344 = .ok (.iload 4, 2) := by decide +kernel
theorem d_La_law_346 : decode code 346 = .ok (.iconst 4, 1) := by decide +kernel
theorem d_La_law_347 : decode code 347 = .ok (.iadd, 1) := by decide +kernel
theorem d_La_law_348 : decode code 348 = .ok (.iaload, 1) := by decide +kernel
theorem d_La_law_349 : decode code 349 = .ok (.aload_n 3, 1) := by decide +kernel
theorem d_La_law_350 : decode code 350 = .ok (.invokestatic 93, 3) := by decide +kernel
theorem d_La_law_353 : decode code 353 = .ok (.istore 5, 2) := by decide +kernel
theorem d_La_law_355 : decode code 355 = .ok (.aload_n 2, 1) := by decide +kernel
theorem d_La_law_356 : decode code 356 = .ok (.aload_n 0, 1) := by decide +kernel
theorem d_La_law_357 : decode code 357 = .ok (.iload 4, 2) := by decide +kernel
theorem d_La_law_359 : decode code 359 = .ok (.iconst 1, 1) := by decide +kernel
theorem d_La_law_360 : decode code 360 = .ok (.iadd, 1) := by decide +kernel
theorem d_La_law_361 : decode code 361 = .ok (.iaload, 1) := by decide +kernel
theorem d_La_law_362 : decode code 362 = .ok (.aload_n 0, 1) := by decide +kernel
theorem d_La_law_363 : decode code 363 = .ok (.iload 4, 2) := by decide +kernel
theorem d_La_law_365 : decode code 365 = .ok (.iconst 2, 1) := by decide +kernel
theorem d_La_law_366 : decode code 366 = .ok (.iadd, 1) := by decide +kernel
theorem d_La_law_367 : decode code 367 = .ok (.iaload, 1) := by decide +kernel
theorem d_La_law_368 : decode code 368 = .ok (.aload_n 0, 1) := by decide +kernel
theorem d_La_law_369 : decode code 369 = .ok (.iload 4, 2) := by decide +kernel
theorem d_La_law_371 : decode code 371 = .ok (.iconst 3, 1) := by decide +kernel
theorem d_La_law_372 : decode code 372 = .ok (.iadd, 1) := by decide +kernel
theorem d_La_law_373 : decode code 373 = .ok (.iaload, 1) := by decide +kernel
theorem d_La_law_374 : decode code 374 = .ok (.aload_n 0, 1) := by decide +kernel
theorem d_La_law_375 : decode code 375 = .ok (.iload 4, 2) := by decide +kernel
theorem d_La_law_377 : decode code 377 = .ok (.iconst 4, 1) := by decide +kernel
theorem d_La_law_378 : decode code 378 = .ok (.iadd, 1) := by decide +kernel
theorem d_La_law_379 : decode code 379 = .ok (.iaload, 1) := by decide +kernel
theorem d_La_law_380 : decode code 380 = .ok (.invokevirtual 95, 3) := by decide +kernel
theorem d_La_law_383 : decode code 383 = .ok (.istore 6, 2) := by decide +kernel
theorem d_La_law_385 : decode code 385 = .ok (.aload_n 2, 1) := by decide +kernel
theorem d_La_law_386 : decode code 386 = .ok (.invokevirtual 82, 3) := by decide +kernel
theorem d_La_law_389 : decode code 389 = .ok (.iload 5, 2) := by decide +kernel
theorem d_La_law_391 : decode code 391 = .ok (.if_icmp .eq 5, 3) := by decide +kernel
theorem d_La_law_394 : decode code 394 = .ok (.iconst 0, 1) := by decide +kernel
theorem d_La_law_395 : decode code 395 = .ok (.ireturn, 1) := by decide +kernel
theorem d_La_law_396 : decode code 396 = .ok (.iload 5, 2) := by decide +kernel
theorem d_La_law_398 : decode code 398 = .ok (.ifCond .ne 15, 3) := by decide +kernel
theorem d_La_law_401 : decode code 401 = .ok (.aload_n 3, 1) := by decide +kernel
theorem d_La_law_402 : decode code 402 = .ok (.iconst 0, 1) := by decide +kernel
theorem d_La_law_403 : decode code 403 = .ok (.laload, 1) := by decide +kernel
theorem d_La_law_404 : decode code 404 = .ok (.iload 6, 2) := by decide +kernel
theorem d_La_law_406 : decode code 406 = .ok (.i2l, 1) := by decide +kernel
theorem d_La_law_407 : decode code 407 = .ok (.lcmp, 1) := by decide +kernel
theorem d_La_law_408 : decode code 408 = .ok (.ifCond .eq 5, 3) := by decide +kernel
theorem d_La_law_411 : decode code 411 = .ok (.iconst 0, 1) := by decide +kernel
theorem d_La_law_412 : decode code 412 = .ok (.ireturn, 1) := by decide +kernel
theorem d_La_law_413 : decode code 413 = .ok (.goto 1091, 3) := by decide +kernel
theorem d_La_law_416 : decode code 416 = .ok (.aload_n 1, 1) := by decide +kernel
theorem d_La_law_417 : decode code 417 = .ok (.aload_n 0, 1) := by decide +kernel
theorem d_La_law_418 : decode code 418 = .ok (.iload 4, 2) := by decide +kernel
theorem d_La_law_420 : decode code 420 = .ok (.iconst 1, 1) := by decide +kernel
theorem d_La_law_421 : decode code 421 = .ok (.iadd, 1) := by decide +kernel
theorem d_La_law_422 : decode code 422 = .ok (.iaload, 1) := by decide +kernel
theorem d_La_law_423 : decode code 423 = .ok (.aload_n 0, 1) := by decide +kernel
theorem d_La_law_424 : decode code 424 = .ok (.iload 4, 2) := by decide +kernel
theorem d_La_law_426 : decode code 426 = .ok (.iconst 2, 1) := by decide +kernel
theorem d_La_law_427 : decode code 427 = .ok (.iadd, 1) := by decide +kernel
theorem d_La_law_428 : decode code 428 = .ok (.iaload, 1) := by decide +kernel
theorem d_La_law_429 : decode code 429 = .ok (.aload_n 0, 1) := by decide +kernel
theorem d_La_law_430 : decode code 430 = .ok (.iload 4, 2) := by decide +kernel
theorem d_La_law_432 : decode code 432 = .ok (.iconst 3, 1) := by decide +kernel
theorem d_La_law_433 : decode code 433 = .ok (.iadd, 1) := by decide +kernel
theorem d_La_law_434 : decode code 434 = .ok (.iaload, 1) := by decide +kernel
theorem d_La_law_435 : decode code 435 = .ok (.aload_n 0, 1) := by decide +kernel
theorem d_La_law_436 : decode code 436 = .ok (.iload 4, 2) := by decide +kernel
theorem d_La_law_438 : decode code 438 = .ok (.iconst 4, 1) := by decide +kernel
theorem d_La_law_439 : decode code 439 = .ok (.iadd, 1) := by decide +kernel
theorem d_La_law_440 : decode code 440 = .ok (.iaload, 1) := by decide +kernel
theorem d_La_law_441 : decode code 441 = .ok (.aload_n 3, 1) := by decide +kernel
theorem d_La_law_442 : decode code 442 = .ok (.invokestatic 96, 3) := by decide +kernel
theorem d_La_law_445 : decode code 445 = .ok (.istore 5, 2) := by decide +kernel
theorem d_La_law_447 : decode code 447 = .ok (.aload_n 2, 1) := by decide +kernel
theorem d_La_law_448 : decode code 448 = .ok (.aload_n 0, 1) := by decide +kernel
theorem d_La_law_449 : decode code 449 = .ok (.iload 4, 2) := by decide +kernel
theorem d_La_law_451 : decode code 451 = .ok (.iconst 1, 1) := by decide +kernel
theorem d_La_law_452 : decode code 452 = .ok (.iadd, 1) := by decide +kernel
theorem d_La_law_453 : decode code 453 = .ok (.iaload, 1) := by decide +kernel
theorem d_La_law_454 : decode code 454 = .ok (.aload_n 0, 1) := by decide +kernel
theorem d_La_law_455 : decode code 455 = .ok (.iload 4, 2) := by decide +kernel
theorem d_La_law_457 : decode code 457 = .ok (.iconst 2, 1) := by decide +kernel
theorem d_La_law_458 : decode code 458 = .ok (.iadd, 1) := by decide +kernel
theorem d_La_law_459 : decode code 459 = .ok (.iaload, 1) := by decide +kernel
theorem d_La_law_460 : decode code 460 = .ok (.aload_n 0, 1) := by decide +kernel
theorem d_La_law_461 : decode code 461 = .ok (.iload 4, 2) := by decide +kernel
theorem d_La_law_463 : decode code 463 = .ok (.iconst 3, 1) := by decide +kernel
theorem d_La_law_464 : decode code 464 = .ok (.iadd, 1) := by decide +kernel
theorem d_La_law_465 : decode code 465 = .ok (.iaload, 1) := by decide +kernel
theorem d_La_law_466 : decode code 466 = .ok (.aload_n 0, 1) := by decide +kernel
theorem d_La_law_467 : decode code 467 = .ok (.iload 4, 2) := by decide +kernel
theorem d_La_law_469 : decode code 469 = .ok (.iconst 4, 1) := by decide +kernel
theorem d_La_law_470 : decode code 470 = .ok (.iadd, 1) := by decide +kernel
theorem d_La_law_471 : decode code 471 = .ok (.iaload, 1) := by decide +kernel
theorem d_La_law_472 : decode code 472 = .ok (.invokevirtual 98, 3) := by decide +kernel
theorem d_La_law_475 : decode code 475 = .ok (.istore 6, 2) := by decide +kernel
theorem d_La_law_477 : decode code 477 = .ok (.aload_n 2, 1) := by decide +kernel
theorem d_La_law_478 : decode code 478 = .ok (.invokevirtual 82, 3) := by decide +kernel
theorem d_La_law_481 : decode code 481 = .ok (.iload 5, 2) := by decide +kernel
theorem d_La_law_483 : decode code 483 = .ok (.if_icmp .eq 5, 3) := by decide +kernel
theorem d_La_law_486 : decode code 486 = .ok (.iconst 0, 1) := by decide +kernel
theorem d_La_law_487 : decode code 487 = .ok (.ireturn, 1) := by decide +kernel
theorem d_La_law_488 : decode code 488 = .ok (.iload 5, 2) := by decide +kernel
theorem d_La_law_490 : decode code 490 = .ok (.ifCond .ne 15, 3) := by decide +kernel
theorem d_La_law_493 : decode code 493 = .ok (.aload_n 3, 1) := by decide +kernel
theorem d_La_law_494 : decode code 494 = .ok (.iconst 0, 1) := by decide +kernel
theorem d_La_law_495 : decode code 495 = .ok (.laload, 1) := by decide +kernel
theorem d_La_law_496 : decode code 496 = .ok (.iload 6, 2) := by decide +kernel
theorem d_La_law_498 : decode code 498 = .ok (.i2l, 1) := by decide +kernel
theorem d_La_law_499 : decode code 499 = .ok (.lcmp, 1) := by decide +kernel
theorem d_La_law_500 : decode code 500 = .ok (.ifCond .eq 5, 3) := by decide +kernel
theorem d_La_law_503 : decode code 503 = .ok (.iconst 0, 1) := by decide +kernel
theorem d_La_law_504 : decode code 504 = .ok (.ireturn, 1) := by decide +kernel
theorem d_La_law_505 : decode code 505 = .ok (.goto 999, 3) := by decide +kernel
theorem d_La_law_508 : decode code 508 = .ok (.aload_n 1, 1) := by decide +kernel
theorem d_La_law_509 : decode code 509 = .ok (.aload_n 0, 1) := by decide +kernel
theorem d_La_law_510 : decode code 510 = .ok (.iload 4, 2) := by decide +kernel
theorem d_La_law_512 : decode code 512 = .ok (.iconst 1, 1) := by decide +kernel
theorem d_La_law_513 : decode code 513 = .ok (.iadd, 1) := by decide +kernel
theorem d_La_law_514 : decode code 514 = .ok (.iaload, 1) := by decide +kernel
theorem d_La_law_515 : decode code 515 = .ok (.aload_n 0, 1) := by decide +kernel
theorem d_La_law_516 : decode code 516 = .ok (.iload 4, 2) := by decide +kernel
theorem d_La_law_518 : decode code 518 = .ok (.iconst 2, 1) := by decide +kernel
theorem d_La_law_519 : decode code 519 = .ok (.iadd, 1) := by decide +kernel
theorem d_La_law_520 : decode code 520 = .ok (.iaload, 1) := by decide +kernel
theorem d_La_law_521 : decode code 521 = .ok (.aload_n 0, 1) := by decide +kernel
theorem d_La_law_522 : decode code 522 = .ok (.iload 4, 2) := by decide +kernel
theorem d_La_law_524 : decode code 524 = .ok (.iconst 3, 1) := by decide +kernel
theorem d_La_law_525 : decode code 525 = .ok (.iadd, 1) := by decide +kernel
theorem d_La_law_526 : decode code 526 = .ok (.iaload, 1) := by decide +kernel
theorem d_La_law_527 : decode code 527 = .ok (.aload_n 0, 1) := by decide +kernel
theorem d_La_law_528 : decode code 528 = .ok (.iload 4, 2) := by decide +kernel
theorem d_La_law_530 : decode code 530 = .ok (.iconst 4, 1) := by decide +kernel
theorem d_La_law_531 : decode code 531 = .ok (.iadd, 1) := by decide +kernel
theorem d_La_law_532 : decode code 532 = .ok (.iaload, 1) := by decide +kernel
theorem d_La_law_533 : decode code 533 = .ok (.aload_n 0, 1) := by decide +kernel
theorem d_La_law_534 : decode code 534 = .ok (.iload 4, 2) := by decide +kernel
theorem d_La_law_536 : decode code 536 = .ok (.iconst 5, 1) := by decide +kernel
theorem d_La_law_537 : decode code 537 = .ok (.iadd, 1) := by decide +kernel
theorem d_La_law_538 : decode code 538 = .ok (.iaload, 1) := by decide +kernel
theorem d_La_law_539 : decode code 539 = .ok (.aload_n 3, 1) := by decide +kernel
theorem d_La_law_540 : decode code 540 = .ok (.invokestatic 99, 3) := by decide +kernel
theorem d_La_law_543 : decode code 543 = .ok (.istore 5, 2) := by decide +kernel
theorem d_La_law_545 : decode code 545 = .ok (.aload_n 2, 1) := by decide +kernel
theorem d_La_law_546 : decode code 546 = .ok (.aload_n 0, 1) := by decide +kernel
theorem d_La_law_547 : decode code 547 = .ok (.iload 4, 2) := by decide +kernel
theorem d_La_law_549 : decode code 549 = .ok (.iconst 1, 1) := by decide +kernel
theorem d_La_law_550 : decode code 550 = .ok (.iadd, 1) := by decide +kernel
theorem d_La_law_551 : decode code 551 = .ok (.iaload, 1) := by decide +kernel
theorem d_La_law_552 : decode code 552 = .ok (.aload_n 0, 1) := by decide +kernel
theorem d_La_law_553 : decode code 553 = .ok (.iload 4, 2) := by decide +kernel
theorem d_La_law_555 : decode code 555 = .ok (.iconst 2, 1) := by decide +kernel
theorem d_La_law_556 : decode code 556 = .ok (.iadd, 1) := by decide +kernel
theorem d_La_law_557 : decode code 557 = .ok (.iaload, 1) := by decide +kernel
theorem d_La_law_558 : decode code 558 = .ok (.aload_n 0, 1) := by decide +kernel
theorem d_La_law_559 : decode code 559 = .ok (.iload 4, 2) := by decide +kernel
theorem d_La_law_561 : decode code 561 = .ok (.iconst 3, 1) := by decide +kernel
theorem d_La_law_562 : decode code 562 = .ok (.iadd, 1) := by decide +kernel
theorem d_La_law_563 : decode code 563 = .ok (.iaload, 1) := by decide +kernel
theorem d_La_law_564 : decode code 564 = .ok (.aload_n 0, 1) := by decide +kernel
theorem d_La_law_565 : decode code 565 = .ok (.iload 4, 2) := by decide +kernel
theorem d_La_law_567 : decode code 567 = .ok (.iconst 4, 1) := by decide +kernel
theorem d_La_law_568 : decode code 568 = .ok (.iadd, 1) := by decide +kernel
theorem d_La_law_569 : decode code 569 = .ok (.iaload, 1) := by decide +kernel
theorem d_La_law_570 : decode code 570 = .ok (.aload_n 0, 1) := by decide +kernel
theorem d_La_law_571 : decode code 571 = .ok (.iload 4, 2) := by decide +kernel
theorem d_La_law_573 : decode code 573 = .ok (.iconst 5, 1) := by decide +kernel
theorem d_La_law_574 : decode code 574 = .ok (.iadd, 1) := by decide +kernel
theorem d_La_law_575 : decode code 575 = .ok (.iaload, 1) := by decide +kernel
theorem d_La_law_576 : decode code 576 = .ok (.invokevirtual 102, 3) := by decide +kernel
theorem d_La_law_579 : decode code 579 = .ok (.istore 6, 2) := by decide +kernel
theorem d_La_law_581 : decode code 581 = .ok (.aload_n 2, 1) := by decide +kernel
theorem d_La_law_582 : decode code 582 = .ok (.invokevirtual 82, 3) := by decide +kernel
theorem d_La_law_585 : decode code 585 = .ok (.iload 5, 2) := by decide +kernel
theorem d_La_law_587 : decode code 587 = .ok (.if_icmp .eq 5, 3) := by decide +kernel
theorem d_La_law_590 : decode code 590 = .ok (.iconst 0, 1) := by decide +kernel
theorem d_La_law_591 : decode code 591 = .ok (.ireturn, 1) := by decide +kernel
theorem d_La_law_592 : decode code 592 = .ok (.iload 5, 2) := by decide +kernel
theorem d_La_law_594 : decode code 594 = .ok (.ifCond .ne 15, 3) := by decide +kernel
theorem d_La_law_597 : decode code 597 = .ok (.aload_n 3, 1) := by decide +kernel
theorem d_La_law_598 : decode code 598 = .ok (.iconst 0, 1) := by decide +kernel
theorem d_La_law_599 : decode code 599 = .ok (.laload, 1) := by decide +kernel
theorem d_La_law_600 : decode code 600 = .ok (.iload 6, 2) := by decide +kernel
theorem d_La_law_602 : decode code 602 = .ok (.i2l, 1) := by decide +kernel
theorem d_La_law_603 : decode code 603 = .ok (.lcmp, 1) := by decide +kernel
theorem d_La_law_604 : decode code 604 = .ok (.ifCond .eq 5, 3) := by decide +kernel
theorem d_La_law_607 : decode code 607 = .ok (.iconst 0, 1) := by decide +kernel
theorem d_La_law_608 : decode code 608 = .ok (.ireturn, 1) := by decide +kernel
theorem d_La_law_609 : decode code 609 = .ok (.goto 895, 3) := by decide +kernel
theorem d_La_law_612 : decode code 612 = .ok (.aload_n 1, 1) := by decide +kernel
theorem d_La_law_613 : decode code 613 = .ok (.aload_n 0, 1) := by decide +kernel
theorem d_La_law_614 : decode code 614 = .ok (.iload 4, 2) := by decide +kernel
theorem d_La_law_616 : decode code 616 = .ok (.iconst 1, 1) := by decide +kernel
theorem d_La_law_617 : decode code 617 = .ok (.iadd, 1) := by decide +kernel
theorem d_La_law_618 : decode code 618 = .ok (.iaload, 1) := by decide +kernel
theorem d_La_law_619 : decode code 619 = .ok (.aload_n 0, 1) := by decide +kernel
theorem d_La_law_620 : decode code 620 = .ok (.iload 4, 2) := by decide +kernel
theorem d_La_law_622 : decode code 622 = .ok (.iconst 2, 1) := by decide +kernel
theorem d_La_law_623 : decode code 623 = .ok (.iadd, 1) := by decide +kernel
theorem d_La_law_624 : decode code 624 = .ok (.iaload, 1) := by decide +kernel
theorem d_La_law_625 : decode code 625 = .ok (.aload_n 0, 1) := by decide +kernel
theorem d_La_law_626 : decode code 626 = .ok (.iload 4, 2) := by decide +kernel
theorem d_La_law_628 : decode code 628 = .ok (.iconst 3, 1) := by decide +kernel
theorem d_La_law_629 : decode code 629 = .ok (.iadd, 1) := by decide +kernel
theorem d_La_law_630 : decode code 630 = .ok (.iaload, 1) := by decide +kernel
theorem d_La_law_631 : decode code 631 = .ok (.aload_n 0, 1) := by decide +kernel
theorem d_La_law_632 : decode code 632 = .ok (.iload 4, 2) := by decide +kernel
theorem d_La_law_634 : decode code 634 = .ok (.iconst 4, 1) := by decide +kernel
theorem d_La_law_635 : decode code 635 = .ok (.iadd, 1) := by decide +kernel
theorem d_La_law_636 : decode code 636 = .ok (.iaload, 1) := by decide +kernel
theorem d_La_law_637 : decode code 637 = .ok (.aload_n 3, 1) := by decide +kernel
theorem d_La_law_638 : decode code 638 = .ok (.invokestatic 103, 3) := by decide +kernel
theorem d_La_law_641 : decode code 641 = .ok (.istore 5, 2) := by decide +kernel
theorem d_La_law_643 : decode code 643 = .ok (.aload_n 2, 1) := by decide +kernel
theorem d_La_law_644 : decode code 644 = .ok (.aload_n 0, 1) := by decide +kernel
theorem d_La_law_645 : decode code 645 = .ok (.iload 4, 2) := by decide +kernel
theorem d_La_law_647 : decode code 647 = .ok (.iconst 1, 1) := by decide +kernel
theorem d_La_law_648 : decode code 648 = .ok (.iadd, 1) := by decide +kernel
theorem d_La_law_649 : decode code 649 = .ok (.iaload, 1) := by decide +kernel
theorem d_La_law_650 : decode code 650 = .ok (.aload_n 0, 1) := by decide +kernel
theorem d_La_law_651 : decode code 651 = .ok (.iload 4, 2) := by decide +kernel
theorem d_La_law_653 : decode code 653 = .ok (.iconst 2, 1) := by decide +kernel
theorem d_La_law_654 : decode code 654 = .ok (.iadd, 1) := by decide +kernel
theorem d_La_law_655 : decode code 655 = .ok (.iaload, 1) := by decide +kernel
theorem d_La_law_656 : decode code 656 = .ok (.aload_n 0, 1) := by decide +kernel
theorem d_La_law_657 : decode code 657 = .ok (.iload 4, 2) := by decide +kernel
theorem d_La_law_659 : decode code 659 = .ok (.iconst 3, 1) := by decide +kernel
theorem d_La_law_660 : decode code 660 = .ok (.iadd, 1) := by decide +kernel
theorem d_La_law_661 : decode code 661 = .ok (.iaload, 1) := by decide +kernel
theorem d_La_law_662 : decode code 662 = .ok (.aload_n 0, 1) := by decide +kernel
theorem d_La_law_663 : decode code 663 = .ok (.iload 4, 2) := by decide +kernel
theorem d_La_law_665 : decode code 665 = .ok (.iconst 4, 1) := by decide +kernel
theorem d_La_law_666 : decode code 666 = .ok (.iadd, 1) := by decide +kernel
theorem d_La_law_667 : decode code 667 = .ok (.iaload, 1) := by decide +kernel
theorem d_La_law_668 : decode code 668 = .ok (.invokevirtual 105, 3) := by decide +kernel
theorem d_La_law_671 : decode code 671 = .ok (.istore 6, 2) := by decide +kernel
theorem d_La_law_673 : decode code 673 = .ok (.aload_n 2, 1) := by decide +kernel
theorem d_La_law_674 : decode code 674 = .ok (.invokevirtual 82, 3) := by decide +kernel
theorem d_La_law_677 : decode code 677 = .ok (.iload 5, 2) := by decide +kernel
theorem d_La_law_679 : decode code 679 = .ok (.if_icmp .eq 5, 3) := by decide +kernel
theorem d_La_law_682 : decode code 682 = .ok (.iconst 0, 1) := by decide +kernel
theorem d_La_law_683 : decode code 683 = .ok (.ireturn, 1) := by decide +kernel
theorem d_La_law_684 : decode code 684 = .ok (.iload 5, 2) := by decide +kernel
theorem d_La_law_686 : decode code 686 = .ok (.ifCond .ne 15, 3) := by decide +kernel
theorem d_La_law_689 : decode code 689 = .ok (.aload_n 3, 1) := by decide +kernel
theorem d_La_law_690 : decode code 690 = .ok (.iconst 0, 1) := by decide +kernel
theorem d_La_law_691 : decode code 691 = .ok (.laload, 1) := by decide +kernel
theorem d_La_law_692 : decode code 692 = .ok (.iload 6, 2) := by decide +kernel
theorem d_La_law_694 : decode code 694 = .ok (.i2l, 1) := by decide +kernel
theorem d_La_law_695 : decode code 695 = .ok (.lcmp, 1) := by decide +kernel
theorem d_La_law_696 : decode code 696 = .ok (.ifCond .eq 5, 3) := by decide +kernel
theorem d_La_law_699 : decode code 699 = .ok (.iconst 0, 1) := by decide +kernel
theorem d_La_law_700 : decode code 700 = .ok (.ireturn, 1) := by decide +kernel
theorem d_La_law_701 : decode code 701 = .ok (.goto 803, 3) := by decide +kernel
theorem d_La_law_704 : decode code 704 = .ok (.aload_n 1, 1) := by decide +kernel
theorem d_La_law_705 : decode code 705 = .ok (.aload_n 0, 1) := by decide +kernel
theorem d_La_law_706 : decode code 706 = .ok (.iload 4, 2) := by decide +kernel
theorem d_La_law_708 : decode code 708 = .ok (.iconst 1, 1) := by decide +kernel
theorem d_La_law_709 : decode code 709 = .ok (.iadd, 1) := by decide +kernel
theorem d_La_law_710 : decode code 710 = .ok (.iaload, 1) := by decide +kernel
theorem d_La_law_711 : decode code 711 = .ok (.aload_n 0, 1) := by decide +kernel
theorem d_La_law_712 : decode code 712 = .ok (.iload 4, 2) := by decide +kernel
theorem d_La_law_714 : decode code 714 = .ok (.iconst 2, 1) := by decide +kernel
theorem d_La_law_715 : decode code 715 = .ok (.iadd, 1) := by decide +kernel
theorem d_La_law_716 : decode code 716 = .ok (.iaload, 1) := by decide +kernel
theorem d_La_law_717 : decode code 717 = .ok (.aload_n 0, 1) := by decide +kernel
theorem d_La_law_718 : decode code 718 = .ok (.iload 4, 2) := by decide +kernel
theorem d_La_law_720 : decode code 720 = .ok (.iconst 3, 1) := by decide +kernel
theorem d_La_law_721 : decode code 721 = .ok (.iadd, 1) := by decide +kernel
theorem d_La_law_722 : decode code 722 = .ok (.iaload, 1) := by decide +kernel
theorem d_La_law_723 : decode code 723 = .ok (.aload_n 0, 1) := by decide +kernel
theorem d_La_law_724 : decode code 724 = .ok (.iload 4, 2) := by decide +kernel
theorem d_La_law_726 : decode code 726 = .ok (.iconst 4, 1) := by decide +kernel
theorem d_La_law_727 : decode code 727 = .ok (.iadd, 1) := by decide +kernel
theorem d_La_law_728 : decode code 728 = .ok (.iaload, 1) := by decide +kernel
theorem d_La_law_729 : decode code 729 = .ok (.aload_n 3, 1) := by decide +kernel
theorem d_La_law_730 : decode code 730 = .ok (.invokestatic 106, 3) := by decide +kernel
theorem d_La_law_733 : decode code 733 = .ok (.istore 5, 2) := by decide +kernel
theorem d_La_law_735 : decode code 735 = .ok (.aload_n 2, 1) := by decide +kernel
theorem d_La_law_736 : decode code 736 = .ok (.aload_n 0, 1) := by decide +kernel
theorem d_La_law_737 : decode code 737 = .ok (.iload 4, 2) := by decide +kernel
theorem d_La_law_739 : decode code 739 = .ok (.iconst 1, 1) := by decide +kernel
theorem d_La_law_740 : decode code 740 = .ok (.iadd, 1) := by decide +kernel
theorem d_La_law_741 : decode code 741 = .ok (.iaload, 1) := by decide +kernel
theorem d_La_law_742 : decode code 742 = .ok (.aload_n 0, 1) := by decide +kernel
theorem d_La_law_743 : decode code 743 = .ok (.iload 4, 2) := by decide +kernel
theorem d_La_law_745 : decode code 745 = .ok (.iconst 2, 1) := by decide +kernel
theorem d_La_law_746 : decode code 746 = .ok (.iadd, 1) := by decide +kernel
theorem d_La_law_747 : decode code 747 = .ok (.iaload, 1) := by decide +kernel
theorem d_La_law_748 : decode code 748 = .ok (.aload_n 0, 1) := by decide +kernel
theorem d_La_law_749 : decode code 749 = .ok (.iload 4, 2) := by decide +kernel
theorem d_La_law_751 : decode code 751 = .ok (.iconst 3, 1) := by decide +kernel
theorem d_La_law_752 : decode code 752 = .ok (.iadd, 1) := by decide +kernel
theorem d_La_law_753 : decode code 753 = .ok (.iaload, 1) := by decide +kernel
theorem d_La_law_754 : decode code 754 = .ok (.aload_n 0, 1) := by decide +kernel
theorem d_La_law_755 : decode code 755 = .ok (.iload 4, 2) := by decide +kernel
theorem d_La_law_757 : decode code 757 = .ok (.iconst 4, 1) := by decide +kernel
theorem d_La_law_758 : decode code 758 = .ok (.iadd, 1) := by decide +kernel
theorem d_La_law_759 : decode code 759 = .ok (.iaload, 1) := by decide +kernel
theorem d_La_law_760 : decode code 760 = .ok (.invokevirtual 108, 3) := by decide +kernel
theorem d_La_law_763 : decode code 763 = .ok (.istore 6, 2) := by decide +kernel
theorem d_La_law_765 : decode code 765 = .ok (.aload_n 2, 1) := by decide +kernel
theorem d_La_law_766 : decode code 766 = .ok (.invokevirtual 82, 3) := by decide +kernel
theorem d_La_law_769 : decode code 769 = .ok (.iload 5, 2) := by decide +kernel
theorem d_La_law_771 : decode code 771 = .ok (.if_icmp .eq 5, 3) := by decide +kernel
theorem d_La_law_774 : decode code 774 = .ok (.iconst 0, 1) := by decide +kernel
theorem d_La_law_775 : decode code 775 = .ok (.ireturn, 1) := by decide +kernel
theorem d_La_law_776 : decode code 776 = .ok (.iload 5, 2) := by decide +kernel
theorem d_La_law_778 : decode code 778 = .ok (.ifCond .ne 15, 3) := by decide +kernel
theorem d_La_law_781 : decode code 781 = .ok (.aload_n 3, 1) := by decide +kernel
theorem d_La_law_782 : decode code 782 = .ok (.iconst 0, 1) := by decide +kernel
theorem d_La_law_783 : decode code 783 = .ok (.laload, 1) := by decide +kernel
theorem d_La_law_784 : decode code 784 = .ok (.iload 6, 2) := by decide +kernel
theorem d_La_law_786 : decode code 786 = .ok (.i2l, 1) := by decide +kernel
theorem d_La_law_787 : decode code 787 = .ok (.lcmp, 1) := by decide +kernel
theorem d_La_law_788 : decode code 788 = .ok (.ifCond .eq 5, 3) := by decide +kernel
theorem d_La_law_791 : decode code 791 = .ok (.iconst 0, 1) := by decide +kernel
theorem d_La_law_792 : decode code 792 = .ok (.ireturn, 1) := by decide +kernel
theorem d_La_law_793 : decode code 793 = .ok (.goto 711, 3) := by decide +kernel
theorem d_La_law_796 : decode code 796 = .ok (.aload_n 1, 1) := by decide +kernel
theorem d_La_law_797 : decode code 797 = .ok (.aload_n 0, 1) := by decide +kernel
theorem d_La_law_798 : decode code 798 = .ok (.iload 4, 2) := by decide +kernel
theorem d_La_law_800 : decode code 800 = .ok (.iconst 1, 1) := by decide +kernel
theorem d_La_law_801 : decode code 801 = .ok (.iadd, 1) := by decide +kernel
theorem d_La_law_802 : decode code 802 = .ok (.iaload, 1) := by decide +kernel
theorem d_La_law_803 : decode code 803 = .ok (.aload_n 0, 1) := by decide +kernel
theorem d_La_law_804 : decode code 804 = .ok (.iload 4, 2) := by decide +kernel
theorem d_La_law_806 : decode code 806 = .ok (.iconst 2, 1) := by decide +kernel
theorem d_La_law_807 : decode code 807 = .ok (.iadd, 1) := by decide +kernel
theorem d_La_law_808 : decode code 808 = .ok (.iaload, 1) := by decide +kernel
theorem d_La_law_809 : decode code 809 = .ok (.aload_n 3, 1) := by decide +kernel
theorem d_La_law_810 : decode code 810 = .ok (.invokestatic 109, 3) := by decide +kernel
theorem d_La_law_813 : decode code 813 = .ok (.istore 5, 2) := by decide +kernel
theorem d_La_law_815 : decode code 815 = .ok (.aload_n 2, 1) := by decide +kernel
theorem d_La_law_816 : decode code 816 = .ok (.aload_n 0, 1) := by decide +kernel
theorem d_La_law_817 : decode code 817 = .ok (.iload 4, 2) := by decide +kernel
theorem d_La_law_819 : decode code 819 = .ok (.iconst 1, 1) := by decide +kernel
theorem d_La_law_820 : decode code 820 = .ok (.iadd, 1) := by decide +kernel
theorem d_La_law_821 : decode code 821 = .ok (.iaload, 1) := by decide +kernel
theorem d_La_law_822 : decode code 822 = .ok (.aload_n 0, 1) := by decide +kernel
theorem d_La_law_823 : decode code 823 = .ok (.iload 4, 2) := by decide +kernel
theorem d_La_law_825 : decode code 825 = .ok (.iconst 2, 1) := by decide +kernel
theorem d_La_law_826 : decode code 826 = .ok (.iadd, 1) := by decide +kernel
theorem d_La_law_827 : decode code 827 = .ok (.iaload, 1) := by decide +kernel
theorem d_La_law_828 : decode code 828 = .ok (.invokevirtual 112, 3) := by decide +kernel
theorem d_La_law_831 : decode code 831 = .ok (.istore 6, 2) := by decide +kernel
theorem d_La_law_833 : decode code 833 = .ok (.aload_n 2, 1) := by decide +kernel
theorem d_La_law_834 : decode code 834 = .ok (.invokevirtual 82, 3) := by decide +kernel
theorem d_La_law_837 : decode code 837 = .ok (.iload 5, 2) := by decide +kernel
theorem d_La_law_839 : decode code 839 = .ok (.if_icmp .eq 5, 3) := by decide +kernel
theorem d_La_law_842 : decode code 842 = .ok (.iconst 0, 1) := by decide +kernel
theorem d_La_law_843 : decode code 843 = .ok (.ireturn, 1) := by decide +kernel
theorem d_La_law_844 : decode code 844 = .ok (.iload 5, 2) := by decide +kernel
theorem d_La_law_846 : decode code 846 = .ok (.ifCond .ne 15, 3) := by decide +kernel
theorem d_La_law_849 : decode code 849 = .ok (.aload_n 3, 1) := by decide +kernel
theorem d_La_law_850 : decode code 850 = .ok (.iconst 0, 1) := by decide +kernel
theorem d_La_law_851 : decode code 851 = .ok (.laload, 1) := by decide +kernel
theorem d_La_law_852 : decode code 852 = .ok (.iload 6, 2) := by decide +kernel
theorem d_La_law_854 : decode code 854 = .ok (.i2l, 1) := by decide +kernel
theorem d_La_law_855 : decode code 855 = .ok (.lcmp, 1) := by decide +kernel
theorem d_La_law_856 : decode code 856 = .ok (.ifCond .eq 5, 3) := by decide +kernel
theorem d_La_law_859 : decode code 859 = .ok (.iconst 0, 1) := by decide +kernel
theorem d_La_law_860 : decode code 860 = .ok (.ireturn, 1) := by decide +kernel
theorem d_La_law_861 : decode code 861 = .ok (.goto 643, 3) := by decide +kernel
theorem d_La_law_864 : decode code 864 = .ok (.aload_n 1, 1) := by decide +kernel
theorem d_La_law_865 : decode code 865 = .ok (.aload_n 0, 1) := by decide +kernel
theorem d_La_law_866 : decode code 866 = .ok (.iload 4, 2) := by decide +kernel
theorem d_La_law_868 : decode code 868 = .ok (.iconst 1, 1) := by decide +kernel
theorem d_La_law_869 : decode code 869 = .ok (.iadd, 1) := by decide +kernel
theorem d_La_law_870 : decode code 870 = .ok (.iaload, 1) := by decide +kernel
theorem d_La_law_871 : decode code 871 = .ok (.aload_n 0, 1) := by decide +kernel
theorem d_La_law_872 : decode code 872 = .ok (.iload 4, 2) := by decide +kernel
theorem d_La_law_874 : decode code 874 = .ok (.iconst 2, 1) := by decide +kernel
theorem d_La_law_875 : decode code 875 = .ok (.iadd, 1) := by decide +kernel
theorem d_La_law_876 : decode code 876 = .ok (.iaload, 1) := by decide +kernel
theorem d_La_law_877 : decode code 877 = .ok (.aload_n 0, 1) := by decide +kernel
theorem d_La_law_878 : decode code 878 = .ok (.iload 4, 2) := by decide +kernel
theorem d_La_law_880 : decode code 880 = .ok (.iconst 3, 1) := by decide +kernel
theorem d_La_law_881 : decode code 881 = .ok (.iadd, 1) := by decide +kernel
theorem d_La_law_882 : decode code 882 = .ok (.iaload, 1) := by decide +kernel
theorem d_La_law_883 : decode code 883 = .ok (.aload_n 3, 1) := by decide +kernel
theorem d_La_law_884 : decode code 884 = .ok (.invokestatic 113, 3) := by decide +kernel
theorem d_La_law_887 : decode code 887 = .ok (.istore 5, 2) := by decide +kernel
theorem d_La_law_889 : decode code 889 = .ok (.aload_n 2, 1) := by decide +kernel
theorem d_La_law_890 : decode code 890 = .ok (.aload_n 0, 1) := by decide +kernel
theorem d_La_law_891 : decode code 891 = .ok (.iload 4, 2) := by decide +kernel
theorem d_La_law_893 : decode code 893 = .ok (.iconst 1, 1) := by decide +kernel
theorem d_La_law_894 : decode code 894 = .ok (.iadd, 1) := by decide +kernel
theorem d_La_law_895 : decode code 895 = .ok (.iaload, 1) := by decide +kernel
theorem d_La_law_896 : decode code 896 = .ok (.aload_n 0, 1) := by decide +kernel
theorem d_La_law_897 : decode code 897 = .ok (.iload 4, 2) := by decide +kernel
theorem d_La_law_899 : decode code 899 = .ok (.iconst 2, 1) := by decide +kernel
theorem d_La_law_900 : decode code 900 = .ok (.iadd, 1) := by decide +kernel
theorem d_La_law_901 : decode code 901 = .ok (.iaload, 1) := by decide +kernel
theorem d_La_law_902 : decode code 902 = .ok (.aload_n 0, 1) := by decide +kernel
theorem d_La_law_903 : decode code 903 = .ok (.iload 4, 2) := by decide +kernel
theorem d_La_law_905 : decode code 905 = .ok (.iconst 3, 1) := by decide +kernel
theorem d_La_law_906 : decode code 906 = .ok (.iadd, 1) := by decide +kernel
theorem d_La_law_907 : decode code 907 = .ok (.iaload, 1) := by decide +kernel
theorem d_La_law_908 : decode code 908 = .ok (.invokevirtual 116, 3) := by decide +kernel
theorem d_La_law_911 : decode code 911 = .ok (.istore 6, 2) := by decide +kernel
theorem d_La_law_913 : decode code 913 = .ok (.aload_n 2, 1) := by decide +kernel
theorem d_La_law_914 : decode code 914 = .ok (.invokevirtual 82, 3) := by decide +kernel
theorem d_La_law_917 : decode code 917 = .ok (.iload 5, 2) := by decide +kernel
theorem d_La_law_919 : decode code 919 = .ok (.if_icmp .eq 5, 3) := by decide +kernel
theorem d_La_law_922 : decode code 922 = .ok (.iconst 0, 1) := by decide +kernel
theorem d_La_law_923 : decode code 923 = .ok (.ireturn, 1) := by decide +kernel
theorem d_La_law_924 : decode code 924 = .ok (.iload 5, 2) := by decide +kernel
theorem d_La_law_926 : decode code 926 = .ok (.ifCond .ne 15, 3) := by decide +kernel
theorem d_La_law_929 : decode code 929 = .ok (.aload_n 3, 1) := by decide +kernel
theorem d_La_law_930 : decode code 930 = .ok (.iconst 0, 1) := by decide +kernel
theorem d_La_law_931 : decode code 931 = .ok (.laload, 1) := by decide +kernel
theorem d_La_law_932 : decode code 932 = .ok (.iload 6, 2) := by decide +kernel
theorem d_La_law_934 : decode code 934 = .ok (.i2l, 1) := by decide +kernel
theorem d_La_law_935 : decode code 935 = .ok (.lcmp, 1) := by decide +kernel
theorem d_La_law_936 : decode code 936 = .ok (.ifCond .eq 5, 3) := by decide +kernel
theorem d_La_law_939 : decode code 939 = .ok (.iconst 0, 1) := by decide +kernel
theorem d_La_law_940 : decode code 940 = .ok (.ireturn, 1) := by decide +kernel
theorem d_La_law_941 : decode code 941 = .ok (.goto 563, 3) := by decide +kernel
theorem d_La_law_944 : decode code 944 = .ok (.aload_n 1, 1) := by decide +kernel
theorem d_La_law_945 : decode code 945 = .ok (.aload_n 0, 1) := by decide +kernel
theorem d_La_law_946 : decode code 946 = .ok (.iload 4, 2) := by decide +kernel
theorem d_La_law_948 : decode code 948 = .ok (.iconst 1, 1) := by decide +kernel
theorem d_La_law_949 : decode code 949 = .ok (.iadd, 1) := by decide +kernel
theorem d_La_law_950 : decode code 950 = .ok (.iaload, 1) := by decide +kernel
theorem d_La_law_951 : decode code 951 = .ok (.aload_n 0, 1) := by decide +kernel
theorem d_La_law_952 : decode code 952 = .ok (.iload 4, 2) := by decide +kernel
theorem d_La_law_954 : decode code 954 = .ok (.iconst 2, 1) := by decide +kernel
theorem d_La_law_955 : decode code 955 = .ok (.iadd, 1) := by decide +kernel
theorem d_La_law_956 : decode code 956 = .ok (.iaload, 1) := by decide +kernel
theorem d_La_law_957 : decode code 957 = .ok (.aload_n 0, 1) := by decide +kernel
theorem d_La_law_958 : decode code 958 = .ok (.iload 4, 2) := by decide +kernel
theorem d_La_law_960 : decode code 960 = .ok (.iconst 3, 1) := by decide +kernel
theorem d_La_law_961 : decode code 961 = .ok (.iadd, 1) := by decide +kernel
theorem d_La_law_962 : decode code 962 = .ok (.iaload, 1) := by decide +kernel
theorem d_La_law_963 : decode code 963 = .ok (.aload_n 0, 1) := by decide +kernel
theorem d_La_law_964 : decode code 964 = .ok (.iload 4, 2) := by decide +kernel
theorem d_La_law_966 : decode code 966 = .ok (.iconst 4, 1) := by decide +kernel
theorem d_La_law_967 : decode code 967 = .ok (.iadd, 1) := by decide +kernel
theorem d_La_law_968 : decode code 968 = .ok (.iaload, 1) := by decide +kernel
theorem d_La_law_969 : decode code 969 = .ok (.aload_n 3, 1) := by decide +kernel
theorem d_La_law_970 : decode code 970 = .ok (.invokestatic 117, 3) := by decide +kernel
theorem d_La_law_973 : decode code 973 = .ok (.istore 5, 2) := by decide +kernel
theorem d_La_law_975 : decode code 975 = .ok (.aload_n 2, 1) := by decide +kernel
theorem d_La_law_976 : decode code 976 = .ok (.aload_n 0, 1) := by decide +kernel
theorem d_La_law_977 : decode code 977 = .ok (.iload 4, 2) := by decide +kernel
theorem d_La_law_979 : decode code 979 = .ok (.iconst 1, 1) := by decide +kernel
theorem d_La_law_980 : decode code 980 = .ok (.iadd, 1) := by decide +kernel
theorem d_La_law_981 : decode code 981 = .ok (.iaload, 1) := by decide +kernel
theorem d_La_law_982 : decode code 982 = .ok (.aload_n 0, 1) := by decide +kernel
theorem d_La_law_983 : decode code 983 = .ok (.iload 4, 2) := by decide +kernel
theorem d_La_law_985 : decode code 985 = .ok (.iconst 2, 1) := by decide +kernel
theorem d_La_law_986 : decode code 986 = .ok (.iadd, 1) := by decide +kernel
theorem d_La_law_987 : decode code 987 = .ok (.iaload, 1) := by decide +kernel
theorem d_La_law_988 : decode code 988 = .ok (.aload_n 0, 1) := by decide +kernel
theorem d_La_law_989 : decode code 989 = .ok (.iload 4, 2) := by decide +kernel
theorem d_La_law_991 : decode code 991 = .ok (.iconst 3, 1) := by decide +kernel
theorem d_La_law_992 : decode code 992 = .ok (.iadd, 1) := by decide +kernel
theorem d_La_law_993 : decode code 993 = .ok (.iaload, 1) := by decide +kernel
theorem d_La_law_994 : decode code 994 = .ok (.aload_n 0, 1) := by decide +kernel
theorem d_La_law_995 : decode code 995 = .ok (.iload 4, 2) := by decide +kernel
theorem d_La_law_997 : decode code 997 = .ok (.iconst 4, 1) := by decide +kernel
theorem d_La_law_998 : decode code 998 = .ok (.iadd, 1) := by decide +kernel
theorem d_La_law_999 : decode code 999 = .ok (.iaload, 1) := by decide +kernel
theorem d_La_law_1000 : decode code 1000 = .ok (.invokevirtual 119, 3) := by decide +kernel
theorem d_La_law_1003 : decode code 1003 = .ok (.istore 6, 2) := by decide +kernel
theorem d_La_law_1005 : decode code 1005 = .ok (.aload_n 2, 1) := by decide +kernel
theorem d_La_law_1006 : decode code 1006 = .ok (.invokevirtual 82, 3) := by decide +kernel
theorem d_La_law_1009 : decode code 1009 = .ok (.iload 5, 2) := by decide +kernel
theorem d_La_law_1011 : decode code 1011 = .ok (.if_icmp .eq 5, 3) := by decide +kernel
theorem d_La_law_1014 : decode code 1014 = .ok (.iconst 0, 1) := by decide +kernel
theorem d_La_law_1015 : decode code 1015 = .ok (.ireturn, 1) := by decide +kernel
theorem d_La_law_1016 : decode code 1016 = .ok (.iload 5, 2) := by decide +kernel
theorem d_La_law_1018 : decode code 1018 = .ok (.ifCond .ne 15, 3) := by decide +kernel
theorem d_La_law_1021 : decode code 1021 = .ok (.aload_n 3, 1) := by decide +kernel
theorem d_La_law_1022 : decode code 1022 = .ok (.iconst 0, 1) := by decide +kernel
theorem d_La_law_1023 : decode code 1023 = .ok (.laload, 1) := by decide +kernel
theorem d_La_law_1024 : decode code 1024 = .ok (.iload 6, 2) := by decide +kernel
theorem d_La_law_1026 : decode code 1026 = .ok (.i2l, 1) := by decide +kernel
theorem d_La_law_1027 : decode code 1027 = .ok (.lcmp, 1) := by decide +kernel
theorem d_La_law_1028 : decode code 1028 = .ok (.ifCond .eq 5, 3) := by decide +kernel
theorem d_La_law_1031 : decode code 1031 = .ok (.iconst 0, 1) := by decide +kernel
theorem d_La_law_1032 : decode code 1032 = .ok (.ireturn, 1) := by decide +kernel
theorem d_La_law_1033 : decode code 1033 = .ok (.goto 471, 3) := by decide +kernel
theorem d_La_law_1036 : decode code 1036 = .ok (.aload_n 1, 1) := by decide +kernel
theorem d_La_law_1037 : decode code 1037 = .ok (.aload_n 0, 1) := by decide +kernel
theorem d_La_law_1038 : decode code 1038 = .ok (.iload 4, 2) := by decide +kernel
theorem d_La_law_1040 : decode code 1040 = .ok (.iconst 1, 1) := by decide +kernel
theorem d_La_law_1041 : decode code 1041 = .ok (.iadd, 1) := by decide +kernel
theorem d_La_law_1042 : decode code 1042 = .ok (.iaload, 1) := by decide +kernel
theorem d_La_law_1043 : decode code 1043 = .ok (.aload_n 0, 1) := by decide +kernel
theorem d_La_law_1044 : decode code 1044 = .ok (.iload 4, 2) := by decide +kernel
theorem d_La_law_1046 : decode code 1046 = .ok (.iconst 2, 1) := by decide +kernel
theorem d_La_law_1047 : decode code 1047 = .ok (.iadd, 1) := by decide +kernel
theorem d_La_law_1048 : decode code 1048 = .ok (.iaload, 1) := by decide +kernel
theorem d_La_law_1049 : decode code 1049 = .ok (.aload_n 0, 1) := by decide +kernel
theorem d_La_law_1050 : decode code 1050 = .ok (.iload 4, 2) := by decide +kernel
theorem d_La_law_1052 : decode code 1052 = .ok (.iconst 3, 1) := by decide +kernel
theorem d_La_law_1053 : decode code 1053 = .ok (.iadd, 1) := by decide +kernel
theorem d_La_law_1054 : decode code 1054 = .ok (.iaload, 1) := by decide +kernel
theorem d_La_law_1055 : decode code 1055 = .ok (.aload_n 0, 1) := by decide +kernel
theorem d_La_law_1056 : decode code 1056 = .ok (.iload 4, 2) := by decide +kernel
theorem d_La_law_1058 : decode code 1058 = .ok (.iconst 4, 1) := by decide +kernel
theorem d_La_law_1059 : decode code 1059 = .ok (.iadd, 1) := by decide +kernel
theorem d_La_law_1060 : decode code 1060 = .ok (.iaload, 1) := by decide +kernel
theorem d_La_law_1061 : decode code 1061 = .ok (.aload_n 3, 1) := by decide +kernel
theorem d_La_law_1062 : decode code 1062 = .ok (.invokestatic 120, 3) := by decide +kernel
theorem d_La_law_1065 : decode code 1065 = .ok (.istore 5, 2) := by decide +kernel
theorem d_La_law_1067 : decode code 1067 = .ok (.aload_n 2, 1) := by decide +kernel
theorem d_La_law_1068 : decode code 1068 = .ok (.aload_n 0, 1) := by decide +kernel
theorem d_La_law_1069 : decode code 1069 = .ok (.iload 4, 2) := by decide +kernel
theorem d_La_law_1071 : decode code 1071 = .ok (.iconst 1, 1) := by decide +kernel
theorem d_La_law_1072 : decode code 1072 = .ok (.iadd, 1) := by decide +kernel
theorem d_La_law_1073 : decode code 1073 = .ok (.iaload, 1) := by decide +kernel
theorem d_La_law_1074 : decode code 1074 = .ok (.aload_n 0, 1) := by decide +kernel
theorem d_La_law_1075 : decode code 1075 = .ok (.iload 4, 2) := by decide +kernel
theorem d_La_law_1077 : decode code 1077 = .ok (.iconst 2, 1) := by decide +kernel
theorem d_La_law_1078 : decode code 1078 = .ok (.iadd, 1) := by decide +kernel
theorem d_La_law_1079 : decode code 1079 = .ok (.iaload, 1) := by decide +kernel
theorem d_La_law_1080 : decode code 1080 = .ok (.aload_n 0, 1) := by decide +kernel
theorem d_La_law_1081 : decode code 1081 = .ok (.iload 4, 2) := by decide +kernel
theorem d_La_law_1083 : decode code 1083 = .ok (.iconst 3, 1) := by decide +kernel
theorem d_La_law_1084 : decode code 1084 = .ok (.iadd, 1) := by decide +kernel
theorem d_La_law_1085 : decode code 1085 = .ok (.iaload, 1) := by decide +kernel
theorem d_La_law_1086 : decode code 1086 = .ok (.aload_n 0, 1) := by decide +kernel
theorem d_La_law_1087 : decode code 1087 = .ok (.iload 4, 2) := by decide +kernel
theorem d_La_law_1089 : decode code 1089 = .ok (.iconst 4, 1) := by decide +kernel
theorem d_La_law_1090 : decode code 1090 = .ok (.iadd, 1) := by decide +kernel
theorem d_La_law_1091 : decode code 1091 = .ok (.iaload, 1) := by decide +kernel
theorem d_La_law_1092 : decode code 1092 = .ok (.invokevirtual 122, 3) := by decide +kernel
theorem d_La_law_1095 : decode code 1095 = .ok (.istore 6, 2) := by decide +kernel
theorem d_La_law_1097 : decode code 1097 = .ok (.aload_n 2, 1) := by decide +kernel
theorem d_La_law_1098 : decode code 1098 = .ok (.invokevirtual 82, 3) := by decide +kernel
theorem d_La_law_1101 : decode code 1101 = .ok (.iload 5, 2) := by decide +kernel
theorem d_La_law_1103 : decode code 1103 = .ok (.if_icmp .eq 5, 3) := by decide +kernel
theorem d_La_law_1106 : decode code 1106 = .ok (.iconst 0, 1) := by decide +kernel
theorem d_La_law_1107 : decode code 1107 = .ok (.ireturn, 1) := by decide +kernel
theorem d_La_law_1108 : decode code 1108 = .ok (.iload 5, 2) := by decide +kernel
theorem d_La_law_1110 : decode code 1110 = .ok (.ifCond .ne 15, 3) := by decide +kernel
theorem d_La_law_1113 : decode code 1113 = .ok (.aload_n 3, 1) := by decide +kernel
theorem d_La_law_1114 : decode code 1114 = .ok (.iconst 0, 1) := by decide +kernel
theorem d_La_law_1115 : decode code 1115 = .ok (.laload, 1) := by decide +kernel
theorem d_La_law_1116 : decode code 1116 = .ok (.iload 6, 2) := by decide +kernel
theorem d_La_law_1118 : decode code 1118 = .ok (.i2l, 1) := by decide +kernel
theorem d_La_law_1119 : decode code 1119 = .ok (.lcmp, 1) := by decide +kernel
theorem d_La_law_1120 : decode code 1120 = .ok (.ifCond .eq 5, 3) := by decide +kernel
theorem d_La_law_1123 : decode code 1123 = .ok (.iconst 0, 1) := by decide +kernel
theorem d_La_law_1124 : decode code 1124 = .ok (.ireturn, 1) := by decide +kernel
theorem d_La_law_1125 : decode code 1125 = .ok (.goto 379, 3) := by decide +kernel
theorem d_La_law_1128 : decode code 1128 = .ok (.aload_n 1, 1) := by decide +kernel
theorem d_La_law_1129 : decode code 1129 = .ok (.aload_n 0, 1) := by decide +kernel
theorem d_La_law_1130 : decode code 1130 = .ok (.iload 4, 2) := by decide +kernel
theorem d_La_law_1132 : decode code 1132 = .ok (.iconst 1, 1) := by decide +kernel
theorem d_La_law_1133 : decode code 1133 = .ok (.iadd, 1) := by decide +kernel
theorem d_La_law_1134 : decode code 1134 = .ok (.iaload, 1) := by decide +kernel
theorem d_La_law_1135 : decode code 1135 = .ok (.aload_n 0, 1) := by decide +kernel
theorem d_La_law_1136 : decode code 1136 = .ok (.iload 4, 2) := by decide +kernel
theorem d_La_law_1138 : decode code 1138 = .ok (.iconst 2, 1) := by decide +kernel
theorem d_La_law_1139 : decode code 1139 = .ok (.iadd, 1) := by decide +kernel
theorem d_La_law_1140 : decode code 1140 = .ok (.iaload, 1) := by decide +kernel
theorem d_La_law_1141 : decode code 1141 = .ok (.aload_n 0, 1) := by decide +kernel
theorem d_La_law_1142 : decode code 1142 = .ok (.iload 4, 2) := by decide +kernel
theorem d_La_law_1144 : decode code 1144 = .ok (.iconst 3, 1) := by decide +kernel
theorem d_La_law_1145 : decode code 1145 = .ok (.iadd, 1) := by decide +kernel
theorem d_La_law_1146 : decode code 1146 = .ok (.iaload, 1) := by decide +kernel
theorem d_La_law_1147 : decode code 1147 = .ok (.aload_n 0, 1) := by decide +kernel
theorem d_La_law_1148 : decode code 1148 = .ok (.iload 4, 2) := by decide +kernel
theorem d_La_law_1150 : decode code 1150 = .ok (.iconst 4, 1) := by decide +kernel
theorem d_La_law_1151 : decode code 1151 = .ok (.iadd, 1) := by decide +kernel
theorem d_La_law_1152 : decode code 1152 = .ok (.iaload, 1) := by decide +kernel
theorem d_La_law_1153 : decode code 1153 = .ok (.aload_n 3, 1) := by decide +kernel
theorem d_La_law_1154 : decode code 1154 = .ok (.invokestatic 123, 3) := by decide +kernel
theorem d_La_law_1157 : decode code 1157 = .ok (.istore 5, 2) := by decide +kernel
theorem d_La_law_1159 : decode code 1159 = .ok (.aload_n 2, 1) := by decide +kernel
theorem d_La_law_1160 : decode code 1160 = .ok (.aload_n 0, 1) := by decide +kernel
theorem d_La_law_1161 : decode code 1161 = .ok (.iload 4, 2) := by decide +kernel
theorem d_La_law_1163 : decode code 1163 = .ok (.iconst 1, 1) := by decide +kernel
theorem d_La_law_1164 : decode code 1164 = .ok (.iadd, 1) := by decide +kernel
theorem d_La_law_1165 : decode code 1165 = .ok (.iaload, 1) := by decide +kernel
theorem d_La_law_1166 : decode code 1166 = .ok (.aload_n 0, 1) := by decide +kernel
theorem d_La_law_1167 : decode code 1167 = .ok (.iload 4, 2) := by decide +kernel
theorem d_La_law_1169 : decode code 1169 = .ok (.iconst 2, 1) := by decide +kernel
theorem d_La_law_1170 : decode code 1170 = .ok (.iadd, 1) := by decide +kernel
theorem d_La_law_1171 : decode code 1171 = .ok (.iaload, 1) := by decide +kernel
theorem d_La_law_1172 : decode code 1172 = .ok (.aload_n 0, 1) := by decide +kernel
theorem d_La_law_1173 : decode code 1173 = .ok (.iload 4, 2) := by decide +kernel
theorem d_La_law_1175 : decode code 1175 = .ok (.iconst 3, 1) := by decide +kernel
theorem d_La_law_1176 : decode code 1176 = .ok (.iadd, 1) := by decide +kernel
theorem d_La_law_1177 : decode code 1177 = .ok (.iaload, 1) := by decide +kernel
theorem d_La_law_1178 : decode code 1178 = .ok (.aload_n 0, 1) := by decide +kernel
theorem d_La_law_1179 : decode code 1179 = .ok (.iload 4, 2) := by decide +kernel
theorem d_La_law_1181 : decode code 1181 = .ok (.iconst 4, 1) := by decide +kernel
theorem d_La_law_1182 : decode code 1182 = .ok (.iadd, 1) := by decide +kernel
theorem d_La_law_1183 : decode code 1183 = .ok (.iaload, 1) := by decide +kernel
theorem d_La_law_1184 : decode code 1184 = .ok (.invokevirtual 125, 3) := by decide +kernel
theorem d_La_law_1187 : decode code 1187 = .ok (.istore 6, 2) := by decide +kernel
theorem d_La_law_1189 : decode code 1189 = .ok (.aload_n 2, 1) := by decide +kernel
theorem d_La_law_1190 : decode code 1190 = .ok (.invokevirtual 82, 3) := by decide +kernel
theorem d_La_law_1193 : decode code 1193 = .ok (.iload 5, 2) := by decide +kernel
theorem d_La_law_1195 : decode code 1195 = .ok (.if_icmp .eq 5, 3) := by decide +kernel
theorem d_La_law_1198 : decode code 1198 = .ok (.iconst 0, 1) := by decide +kernel
theorem d_La_law_1199 : decode code 1199 = .ok (.ireturn, 1) := by decide +kernel
theorem d_La_law_1200 : decode code 1200 = .ok (.iload 5, 2) := by decide +kernel
theorem d_La_law_1202 : decode code 1202 = .ok (.ifCond .ne 15, 3) := by decide +kernel
theorem d_La_law_1205 : decode code 1205 = .ok (.aload_n 3, 1) := by decide +kernel
theorem d_La_law_1206 : decode code 1206 = .ok (.iconst 0, 1) := by decide +kernel
theorem d_La_law_1207 : decode code 1207 = .ok (.laload, 1) := by decide +kernel
theorem d_La_law_1208 : decode code 1208 = .ok (.iload 6, 2) := by decide +kernel
theorem d_La_law_1210 : decode code 1210 = .ok (.i2l, 1) := by decide +kernel
theorem d_La_law_1211 : decode code 1211 = .ok (.lcmp, 1) := by decide +kernel
theorem d_La_law_1212 : decode code 1212 = .ok (.ifCond .eq 5, 3) := by decide +kernel
theorem d_La_law_1215 : decode code 1215 = .ok (.iconst 0, 1) := by decide +kernel
theorem d_La_law_1216 : decode code 1216 = .ok (.ireturn, 1) := by decide +kernel
theorem d_La_law_1217 : decode code 1217 = .ok (.goto 287, 3) := by decide +kernel
theorem d_La_law_1220 : decode code 1220 = .ok (.aload_n 1, 1) := by decide +kernel
theorem d_La_law_1221 : decode code 1221 = .ok (.aload_n 0, 1) := by decide +kernel
theorem d_La_law_1222 : decode code 1222 = .ok (.iload 4, 2) := by decide +kernel
theorem d_La_law_1224 : decode code 1224 = .ok (.iconst 1, 1) := by decide +kernel
theorem d_La_law_1225 : decode code 1225 = .ok (.iadd, 1) := by decide +kernel
theorem d_La_law_1226 : decode code 1226 = .ok (.iaload, 1) := by decide +kernel
theorem d_La_law_1227 : decode code 1227 = .ok (.aload_n 0, 1) := by decide +kernel
theorem d_La_law_1228 : decode code 1228 = .ok (.iload 4, 2) := by decide +kernel
theorem d_La_law_1230 : decode code 1230 = .ok (.iconst 2, 1) := by decide +kernel
theorem d_La_law_1231 : decode code 1231 = .ok (.iadd, 1) := by decide +kernel
theorem d_La_law_1232 : decode code 1232 = .ok (.iaload, 1) := by decide +kernel
theorem d_La_law_1233 : decode code 1233 = .ok (.aload_n 3, 1) := by decide +kernel
theorem d_La_law_1234 : decode code 1234 = .ok (.invokestatic 126, 3) := by decide +kernel
theorem d_La_law_1237 : decode code 1237 = .ok (.istore 5, 2) := by decide +kernel
theorem d_La_law_1239 : decode code 1239 = .ok (.aload_n 2, 1) := by decide +kernel
theorem d_La_law_1240 : decode code 1240 = .ok (.aload_n 0, 1) := by decide +kernel
theorem d_La_law_1241 : decode code 1241 = .ok (.iload 4, 2) := by decide +kernel
theorem d_La_law_1243 : decode code 1243 = .ok (.iconst 1, 1) := by decide +kernel
theorem d_La_law_1244 : decode code 1244 = .ok (.iadd, 1) := by decide +kernel
theorem d_La_law_1245 : decode code 1245 = .ok (.iaload, 1) := by decide +kernel
theorem d_La_law_1246 : decode code 1246 = .ok (.aload_n 0, 1) := by decide +kernel
theorem d_La_law_1247 : decode code 1247 = .ok (.iload 4, 2) := by decide +kernel
theorem d_La_law_1249 : decode code 1249 = .ok (.iconst 2, 1) := by decide +kernel
theorem d_La_law_1250 : decode code 1250 = .ok (.iadd, 1) := by decide +kernel
theorem d_La_law_1251 : decode code 1251 = .ok (.iaload, 1) := by decide +kernel
theorem d_La_law_1252 : decode code 1252 = .ok (.invokevirtual 128, 3) := by decide +kernel
theorem d_La_law_1255 : decode code 1255 = .ok (.istore 6, 2) := by decide +kernel
theorem d_La_law_1257 : decode code 1257 = .ok (.aload_n 2, 1) := by decide +kernel
theorem d_La_law_1258 : decode code 1258 = .ok (.invokevirtual 82, 3) := by decide +kernel
theorem d_La_law_1261 : decode code 1261 = .ok (.iload 5, 2) := by decide +kernel
theorem d_La_law_1263 : decode code 1263 = .ok (.if_icmp .eq 5, 3) := by decide +kernel
theorem d_La_law_1266 : decode code 1266 = .ok (.iconst 0, 1) := by decide +kernel
theorem d_La_law_1267 : decode code 1267 = .ok (.ireturn, 1) := by decide +kernel
theorem d_La_law_1268 : decode code 1268 = .ok (.iload 5, 2) := by decide +kernel
theorem d_La_law_1270 : decode code 1270 = .ok (.ifCond .ne 15, 3) := by decide +kernel
theorem d_La_law_1273 : decode code 1273 = .ok (.aload_n 3, 1) := by decide +kernel
theorem d_La_law_1274 : decode code 1274 = .ok (.iconst 0, 1) := by decide +kernel
theorem d_La_law_1275 : decode code 1275 = .ok (.laload, 1) := by decide +kernel
theorem d_La_law_1276 : decode code 1276 = .ok (.iload 6, 2) := by decide +kernel
theorem d_La_law_1278 : decode code 1278 = .ok (.i2l, 1) := by decide +kernel
theorem d_La_law_1279 : decode code 1279 = .ok (.lcmp, 1) := by decide +kernel
theorem d_La_law_1280 : decode code 1280 = .ok (.ifCond .eq 5, 3) := by decide +kernel
theorem d_La_law_1283 : decode code 1283 = .ok (.iconst 0, 1) := by decide +kernel
theorem d_La_law_1284 : decode code 1284 = .ok (.ireturn, 1) := by decide +kernel
theorem d_La_law_1285 : decode code 1285 = .ok (.goto 219, 3) := by decide +kernel
theorem d_La_law_1288 : decode code 1288 = .ok (.aload_n 1, 1) := by decide +kernel
theorem d_La_law_1289 : decode code 1289 = .ok (.aload_n 0, 1) := by decide +kernel
theorem d_La_law_1290 : decode code 1290 = .ok (.iload 4, 2) := by decide +kernel
theorem d_La_law_1292 : decode code 1292 = .ok (.iconst 1, 1) := by decide +kernel
theorem d_La_law_1293 : decode code 1293 = .ok (.iadd, 1) := by decide +kernel
theorem d_La_law_1294 : decode code 1294 = .ok (.iaload, 1) := by decide +kernel
theorem d_La_law_1295 : decode code 1295 = .ok (.aload_n 3, 1) := by decide +kernel
theorem d_La_law_1296 : decode code 1296 = .ok (.invokestatic 129, 3) := by decide +kernel
theorem d_La_law_1299 : decode code 1299 = .ok (.istore 5, 2) := by decide +kernel
theorem d_La_law_1301 : decode code 1301 = .ok (.aload_n 2, 1) := by decide +kernel
theorem d_La_law_1302 : decode code 1302 = .ok (.aload_n 0, 1) := by decide +kernel
theorem d_La_law_1303 : decode code 1303 = .ok (.iload 4, 2) := by decide +kernel
theorem d_La_law_1305 : decode code 1305 = .ok (.iconst 1, 1) := by decide +kernel
theorem d_La_law_1306 : decode code 1306 = .ok (.iadd, 1) := by decide +kernel
theorem d_La_law_1307 : decode code 1307 = .ok (.iaload, 1) := by decide +kernel
theorem d_La_law_1308 : decode code 1308 = .ok (.invokevirtual 131, 3) := by decide +kernel
theorem d_La_law_1311 : decode code 1311 = .ok (.istore 6, 2) := by decide +kernel
theorem d_La_law_1313 : decode code 1313 = .ok (.aload_n 2, 1) := by decide +kernel
theorem d_La_law_1314 : decode code 1314 = .ok (.invokevirtual 82, 3) := by decide +kernel
theorem d_La_law_1317 : decode code 1317 = .ok (.iload 5, 2) := by decide +kernel
theorem d_La_law_1319 : decode code 1319 = .ok (.if_icmp .eq 5, 3) := by decide +kernel
theorem d_La_law_1322 : decode code 1322 = .ok (.iconst 0, 1) := by decide +kernel
theorem d_La_law_1323 : decode code 1323 = .ok (.ireturn, 1) := by decide +kernel
theorem d_La_law_1324 : decode code 1324 = .ok (.iload 5, 2) := by decide +kernel
theorem d_La_law_1326 : decode code 1326 = .ok (.ifCond .ne 15, 3) := by decide +kernel
theorem d_La_law_1329 : decode code 1329 = .ok (.aload_n 3, 1) := by decide +kernel
theorem d_La_law_1330 : decode code 1330 = .ok (.iconst 0, 1) := by decide +kernel
theorem d_La_law_1331 : decode code 1331 = .ok (.laload, 1) := by decide +kernel
theorem d_La_law_1332 : decode code 1332 = .ok (.iload 6, 2) := by decide +kernel
theorem d_La_law_1334 : decode code 1334 = .ok (.i2l, 1) := by decide +kernel
theorem d_La_law_1335 : decode code 1335 = .ok (.lcmp, 1) := by decide +kernel
theorem d_La_law_1336 : decode code 1336 = .ok (.ifCond .eq 5, 3) := by decide +kernel
theorem d_La_law_1339 : decode code 1339 = .ok (.iconst 0, 1) := by decide +kernel
theorem d_La_law_1340 : decode code 1340 = .ok (.ireturn, 1) := by decide +kernel
theorem d_La_law_1341 : decode code 1341 = .ok (.goto 163, 3) := by decide +kernel
theorem d_La_law_1344 : decode code 1344 = .ok (.aload_n 1, 1) := by decide +kernel
theorem d_La_law_1345 : decode code 1345 = .ok (.aload_n 0, 1) := by decide +kernel
theorem d_La_law_1346 : decode code 1346 = .ok (.iload 4, 2) := by decide +kernel
theorem d_La_law_1348 : decode code 1348 = .ok (.iconst 1, 1) := by decide +kernel
theorem d_La_law_1349 : decode code 1349 = .ok (.iadd, 1) := by decide +kernel
theorem d_La_law_1350 : decode code 1350 = .ok (.iaload, 1) := by decide +kernel
theorem d_La_law_1351 : decode code 1351 = .ok (.aload_n 0, 1) := by decide +kernel
theorem d_La_law_1352 : decode code 1352 = .ok (.iload 4, 2) := by decide +kernel
theorem d_La_law_1354 : decode code 1354 = .ok (.iconst 2, 1) := by decide +kernel
theorem d_La_law_1355 : decode code 1355 = .ok (.iadd, 1) := by decide +kernel
theorem d_La_law_1356 : decode code 1356 = .ok (.iaload, 1) := by decide +kernel
theorem d_La_law_1357 : decode code 1357 = .ok (.aload_n 0, 1) := by decide +kernel
theorem d_La_law_1358 : decode code 1358 = .ok (.iload 4, 2) := by decide +kernel
theorem d_La_law_1360 : decode code 1360 = .ok (.iconst 3, 1) := by decide +kernel
theorem d_La_law_1361 : decode code 1361 = .ok (.iadd, 1) := by decide +kernel
theorem d_La_law_1362 : decode code 1362 = .ok (.iaload, 1) := by decide +kernel
theorem d_La_law_1363 : decode code 1363 = .ok (.invokevirtual 132, 3) := by decide +kernel
theorem d_La_law_1366 : decode code 1366 = .ok (.aload_n 2, 1) := by decide +kernel
theorem d_La_law_1367 : decode code 1367 = .ok (.aload_n 0, 1) := by decide +kernel
theorem d_La_law_1368 : decode code 1368 = .ok (.iload 4, 2) := by decide +kernel
theorem d_La_law_1370 : decode code 1370 = .ok (.iconst 1, 1) := by decide +kernel
theorem d_La_law_1371 : decode code 1371 = .ok (.iadd, 1) := by decide +kernel
theorem d_La_law_1372 : decode code 1372 = .ok (.iaload, 1) := by decide +kernel
theorem d_La_law_1373 : decode code 1373 = .ok (.aload_n 0, 1) := by decide +kernel
theorem d_La_law_1374 : decode code 1374 = .ok (.iload 4, 2) := by decide +kernel
theorem d_La_law_1376 : decode code 1376 = .ok (.iconst 2, 1) := by decide +kernel
theorem d_La_law_1377 : decode code 1377 = .ok (.iadd, 1) := by decide +kernel
theorem d_La_law_1378 : decode code 1378 = .ok (.iaload, 1) := by decide +kernel
theorem d_La_law_1379 : decode code 1379 = .ok (.aload_n 0, 1) := by decide +kernel
theorem d_La_law_1380 : decode code 1380 = .ok (.iload 4, 2) := by decide +kernel
theorem d_La_law_1382 : decode code 1382 = .ok (.iconst 3, 1) := by decide +kernel
theorem d_La_law_1383 : decode code 1383 = .ok (.iadd, 1) := by decide +kernel
theorem d_La_law_1384 : decode code 1384 = .ok (.iaload, 1) := by decide +kernel
theorem d_La_law_1385 : decode code 1385 = .ok (.invokevirtual 135, 3) := by decide +kernel
theorem d_La_law_1388 : decode code 1388 = .ok (.if_icmp .eq 116, 3) := by decide +kernel
theorem d_La_law_1391 : decode code 1391 = .ok (.iconst 0, 1) := by decide +kernel
theorem d_La_law_1392 : decode code 1392 = .ok (.ireturn, 1) := by decide +kernel
theorem d_La_law_1393 : decode code 1393 = .ok (.aload_n 1, 1) := by decide +kernel
theorem d_La_law_1394 : decode code 1394 = .ok (.aload_n 0, 1) := by decide +kernel
theorem d_La_law_1395 : decode code 1395 = .ok (.iload 4, 2) := by decide +kernel
theorem d_La_law_1397 : decode code 1397 = .ok (.iconst 1, 1) := by decide +kernel
theorem d_La_law_1398 : decode code 1398 = .ok (.iadd, 1) := by decide +kernel
theorem d_La_law_1399 : decode code 1399 = .ok (.iaload, 1) := by decide +kernel
theorem d_La_law_1400 : decode code 1400 = .ok (.aload_n 0, 1) := by decide +kernel
theorem d_La_law_1401 : decode code 1401 = .ok (.iload 4, 2) := by decide +kernel
theorem d_La_law_1403 : decode code 1403 = .ok (.iconst 2, 1) := by decide +kernel
theorem d_La_law_1404 : decode code 1404 = .ok (.iadd, 1) := by decide +kernel
theorem d_La_law_1405 : decode code 1405 = .ok (.iaload, 1) := by decide +kernel
theorem d_La_law_1406 : decode code 1406 = .ok (.aload_n 0, 1) := by decide +kernel
theorem d_La_law_1407 : decode code 1407 = .ok (.iload 4, 2) := by decide +kernel
theorem d_La_law_1409 : decode code 1409 = .ok (.iconst 3, 1) := by decide +kernel
theorem d_La_law_1410 : decode code 1410 = .ok (.iadd, 1) := by decide +kernel
theorem d_La_law_1411 : decode code 1411 = .ok (.iaload, 1) := by decide +kernel
theorem d_La_law_1412 : decode code 1412 = .ok (.invokevirtual 136, 3) := by decide +kernel
theorem d_La_law_1415 : decode code 1415 = .ok (.aload_n 2, 1) := by decide +kernel
theorem d_La_law_1416 : decode code 1416 = .ok (.aload_n 0, 1) := by decide +kernel
theorem d_La_law_1417 : decode code 1417 = .ok (.iload 4, 2) := by decide +kernel
theorem d_La_law_1419 : decode code 1419 = .ok (.iconst 1, 1) := by decide +kernel
theorem d_La_law_1420 : decode code 1420 = .ok (.iadd, 1) := by decide +kernel
theorem d_La_law_1421 : decode code 1421 = .ok (.iaload, 1) := by decide +kernel
theorem d_La_law_1422 : decode code 1422 = .ok (.aload_n 0, 1) := by decide +kernel
theorem d_La_law_1423 : decode code 1423 = .ok (.iload 4, 2) := by decide +kernel
theorem d_La_law_1425 : decode code 1425 = .ok (.iconst 2, 1) := by decide +kernel
theorem d_La_law_1426 : decode code 1426 = .ok (.iadd, 1) := by decide +kernel
theorem d_La_law_1427 : decode code 1427 = .ok (.iaload, 1) := by decide +kernel
theorem d_La_law_1428 : decode code 1428 = .ok (.aload_n 0, 1) := by decide +kernel
theorem d_La_law_1429 : decode code 1429 = .ok (.iload 4, 2) := by decide +kernel
theorem d_La_law_1431 : decode code 1431 = .ok (.iconst 3, 1) := by decide +kernel
theorem d_La_law_1432 : decode code 1432 = .ok (.iadd, 1) := by decide +kernel
theorem d_La_law_1433 : decode code 1433 = .ok (.iaload, 1) := by decide +kernel
theorem d_La_law_1434 : decode code 1434 = .ok (.invokevirtual 139, 3) := by decide +kernel
theorem d_La_law_1437 : decode code 1437 = .ok (.if_icmp .eq 67, 3) := by decide +kernel
theorem d_La_law_1440 : decode code 1440 = .ok (.iconst 0, 1) := by decide +kernel
theorem d_La_law_1441 : decode code 1441 = .ok (.ireturn, 1) := by decide +kernel
theorem d_La_law_1442 : decode code 1442 = .ok (.aload_n 1, 1) := by decide +kernel
theorem d_La_law_1443 : decode code 1443 = .ok (.aload_n 0, 1) := by decide +kernel
theorem d_La_law_1444 : decode code 1444 = .ok (.iload 4, 2) := by decide +kernel
theorem d_La_law_1446 : decode code 1446 = .ok (.iconst 1, 1) := by decide +kernel
theorem d_La_law_1447 : decode code 1447 = .ok (.iadd, 1) := by decide +kernel
theorem d_La_law_1448 : decode code 1448 = .ok (.iaload, 1) := by decide +kernel
theorem d_La_law_1449 : decode code 1449 = .ok (.aload_n 0, 1) := by decide +kernel
theorem d_La_law_1450 : decode code 1450 = .ok (.iload 4, 2) := by decide +kernel
theorem d_La_law_1452 : decode code 1452 = .ok (.iconst 2, 1) := by decide +kernel
theorem d_La_law_1453 : decode code 1453 = .ok (.iadd, 1) := by decide +kernel
theorem d_La_law_1454 : decode code 1454 = .ok (.iaload, 1) := by decide +kernel
theorem d_La_law_1455 : decode code 1455 = .ok (.invokevirtual 140, 3) := by decide +kernel
theorem d_La_law_1458 : decode code 1458 = .ok (.aload_n 2, 1) := by decide +kernel
theorem d_La_law_1459 : decode code 1459 = .ok (.aload_n 0, 1) := by decide +kernel
theorem d_La_law_1460 : decode code 1460 = .ok (.iload 4, 2) := by decide +kernel
theorem d_La_law_1462 : decode code 1462 = .ok (.iconst 1, 1) := by decide +kernel
theorem d_La_law_1463 : decode code 1463 = .ok (.iadd, 1) := by decide +kernel
theorem d_La_law_1464 : decode code 1464 = .ok (.iaload, 1) := by decide +kernel
theorem d_La_law_1465 : decode code 1465 = .ok (.aload_n 0, 1) := by decide +kernel
theorem d_La_law_1466 : decode code 1466 = .ok (.iload 4, 2) := by decide +kernel
theorem d_La_law_1468 : decode code 1468 = .ok (.iconst 2, 1) := by decide +kernel
theorem d_La_law_1469 : decode code 1469 = .ok (.iadd, 1) := by decide +kernel
theorem d_La_law_1470 : decode code 1470 = .ok (.iaload, 1) := by decide +kernel
theorem d_La_law_1471 : decode code 1471 = .ok (.invokevirtual 143, 3) := by decide +kernel
theorem d_La_law_1474 : decode code 1474 = .ok (.if_icmp .eq 30, 3) := by decide +kernel
theorem d_La_law_1477 : decode code 1477 = .ok (.iconst 0, 1) := by decide +kernel
theorem d_La_law_1478 : decode code 1478 = .ok (.ireturn, 1) := by decide +kernel
theorem d_La_law_1479 : decode code 1479 = .ok (.aload_n 1, 1) := by decide +kernel
theorem d_La_law_1480 : decode code 1480 = .ok (.aload_n 0, 1) := by decide +kernel
theorem d_La_law_1481 : decode code 1481 = .ok (.iload 4, 2) := by decide +kernel
theorem d_La_law_1483 : decode code 1483 = .ok (.iconst 1, 1) := by decide +kernel
theorem d_La_law_1484 : decode code 1484 = .ok (.iadd, 1) := by decide +kernel
theorem d_La_law_1485 : decode code 1485 = .ok (.iaload, 1) := by decide +kernel
theorem d_La_law_1486 : decode code 1486 = .ok (.invokevirtual 144, 3) := by decide +kernel
theorem d_La_law_1489 : decode code 1489 = .ok (.aload_n 2, 1) := by decide +kernel
theorem d_La_law_1490 : decode code 1490 = .ok (.aload_n 0, 1) := by decide +kernel
theorem d_La_law_1491 : decode code 1491 = .ok (.iload 4, 2) := by decide +kernel
theorem d_La_law_1493 : decode code 1493 = .ok (.iconst 1, 1) := by decide +kernel
theorem d_La_law_1494 : decode code 1494 = .ok (.iadd, 1) := by decide +kernel
theorem d_La_law_1495 : decode code 1495 = .ok (.iaload, 1) := by decide +kernel
theorem d_La_law_1496 : decode code 1496 = .ok (.invokevirtual 147, 3) := by decide +kernel
theorem d_La_law_1499 : decode code 1499 = .ok (.if_icmp .eq 5, 3) := by decide +kernel
theorem d_La_law_1502 : decode code 1502 = .ok (.iconst 0, 1) := by decide +kernel
theorem d_La_law_1503 : decode code 1503 = .ok (.ireturn, 1) := by decide +kernel
theorem d_La_law_1504 : decode code 1504 = .ok (.iinc 4 6, 3) := by decide +kernel
theorem d_La_law_1507 : decode code 1507 = .ok (.goto (-1484), 3) := by decide +kernel
theorem d_La_law_1510 : decode code 1510 = .ok (.iconst 1, 1) := by decide +kernel
theorem d_La_law_1511 : decode code 1511 = .ok (.ireturn, 1) := by decide +kernel
end
section
/-! ===== THE WORLD AS FUNCTIONS: what the heap holds of our objects and arrays, by tag, address and place =====
kind of an address: 0 none of ours; 2 * ci + 2 an object of class ci of cd_cls; 2 * i + 1 an array of type i of cd_ty.
tag of a field: 32 * ci + k (slot k of class ci); tag of an array's places: 1000 + i -/
abbrev cd_Wd : Type := (Nat → Nat) × (Nat → Nat) × (Nat → Nat → Nat → Int32) × (Nat → Nat → Nat → Option Nat) × (Nat → Nat → Int64)
def cd_kd (w : cd_Wd) (a : Nat) : Nat := w.1 a
def cd_ln (w : cd_Wd) (a : Nat) : Nat := w.2.1 a
def cd_I (w : cd_Wd) (t a j : Nat) : Int32 := w.2.2.1 t a j
def cd_O (w : cd_Wd) (t a j : Nat) : Option Nat := w.2.2.2.1 t a j
def cd_J (w : cd_Wd) (a j : Nat) : Int64 := w.2.2.2.2 a j
def cd_wI (w : cd_Wd) (t a j : Nat) (v : Int32) : cd_Wd := (w.1, w.2.1, fun t' a' j' => if t' = t ∧ a' = a ∧ j' = j then v else w.2.2.1 t' a' j', w.2.2.2.1, w.2.2.2.2)
def cd_wO (w : cd_Wd) (t a j : Nat) (v : Option Nat) : cd_Wd := (w.1, w.2.1, w.2.2.1, fun t' a' j' => if t' = t ∧ a' = a ∧ j' = j then v else w.2.2.2.1 t' a' j', w.2.2.2.2)
def cd_wJ (w : cd_Wd) (a j : Nat) (v : Int64) : cd_Wd := (w.1, w.2.1, w.2.2.1, w.2.2.2.1, fun a' j' => if a' = a ∧ j' = j then v else w.2.2.2.2 a' j')
def cd_wN (w : cd_Wd) (q k n : Nat) : cd_Wd := (fun a => if a = q then k else w.1 a, fun a => if a = q then n else w.2.1 a, fun t a j => if a = q then 0 else w.2.2.1 t a j, fun t a j => if a = q then none else w.2.2.2.1 t a j, fun a j => if a = q then 0 else w.2.2.2.2 a j)
section
variable (w : cd_Wd) (t a j : Nat)
theorem kd_wI (v : Int32) (x : Nat) : cd_kd (cd_wI w t a j v) x = cd_kd w x := rfl
theorem kd_wO (v : Option Nat) (x : Nat) : cd_kd (cd_wO w t a j v) x = cd_kd w x := rfl
theorem kd_wJ (v : Int64) (x : Nat) : cd_kd (cd_wJ w a j v) x = cd_kd w x := rfl
theorem kd_wN (k n x : Nat) : cd_kd (cd_wN w a k n) x = if x = a then k else cd_kd w x := rfl
theorem ln_wI (v : Int32) (x : Nat) : cd_ln (cd_wI w t a j v) x = cd_ln w x := rfl
theorem ln_wO (v : Option Nat) (x : Nat) : cd_ln (cd_wO w t a j v) x = cd_ln w x := rfl
theorem ln_wJ (v : Int64) (x : Nat) : cd_ln (cd_wJ w a j v) x = cd_ln w x := rfl
theorem ln_wN (k n x : Nat) : cd_ln (cd_wN w a k n) x = if x = a then n else cd_ln w x := rfl
theorem I_wI (v : Int32) (t' a' j' : Nat) : cd_I (cd_wI w t a j v) t' a' j' = if t' = t ∧ a' = a ∧ j' = j then v else cd_I w t' a' j' := rfl
theorem I_wO (v : Option Nat) (t' a' j' : Nat) : cd_I (cd_wO w t a j v) t' a' j' = cd_I w t' a' j' := rfl
theorem I_wJ (v : Int64) (t' a' j' : Nat) : cd_I (cd_wJ w a j v) t' a' j' = cd_I w t' a' j' := rfl
theorem I_wN (k n t' a' j' : Nat) : cd_I (cd_wN w a k n) t' a' j' = if a' = a then 0 else cd_I w t' a' j' := rfl
theorem O_wI (v : Int32) (t' a' j' : Nat) : cd_O (cd_wI w t a j v) t' a' j' = cd_O w t' a' j' := rfl
theorem O_wO (v : Option Nat) (t' a' j' : Nat) : cd_O (cd_wO w t a j v) t' a' j' = if t' = t ∧ a' = a ∧ j' = j then v else cd_O w t' a' j' := rfl
theorem O_wJ (v : Int64) (t' a' j' : Nat) : cd_O (cd_wJ w a j v) t' a' j' = cd_O w t' a' j' := rfl
theorem O_wN (k n t' a' j' : Nat) : cd_O (cd_wN w a k n) t' a' j' = if a' = a then none else cd_O w t' a' j' := rfl
theorem J_wI (v : Int32) (a' j' : Nat) : cd_J (cd_wI w t a j v) a' j' = cd_J w a' j' := rfl
theorem J_wO (v : Option Nat) (a' j' : Nat) : cd_J (cd_wO w t a j v) a' j' = cd_J w a' j' := rfl
theorem J_wJ (v : Int64) (a' j' : Nat) : cd_J (cd_wJ w a j v) a' j' = if a' = a ∧ j' = j then v else cd_J w a' j' := rfl
theorem J_wN (k n a' j' : Nat) : cd_J (cd_wN w a k n) a' j' = if a' = a then 0 else cd_J w a' j' := rfl
end
/-- what a field, a place holds -/
def cd_fv (w : cd_Wd) (ci k a : Nat) : Value := if cd_rf ci k then va_rf (cd_O w (32 * ci + k) a 0) else .int (cd_I w (32 * ci + k) a 0)
def cd_av (w : cd_Wd) (i a j : Nat) : Value := match cd_tk i with
  | 0 => .int (cd_I w (1000 + i) a j)
  | 1 => va_rf (cd_O w (1000 + i) a j)
  | _ => .long (cd_J w a j)
/-- what is fixed for a whole run: the classes' numbers and slots, the array classes' numbers, the heap at its start -/
abbrev cd_Gl : Type := va_G × (Nat → ClassId) × Heap
def cd_At (G : cd_Gl) (w : cd_Wd) (H : Heap) (a : Nat) : Prop :=
  (∀ ci, cd_kd w a = 2 * ci + 2 → ∃ q : vw_C, cd_cls[ci]? = some q ∧ t_OB a (G.1.1 ci) q.2.2 (G.1.2 ci) H (fun k => cd_fv w ci k a)) ∧
  (∀ i, cd_kd w a = 2 * i + 1 → H[a]? = some (arrV (G.2.1 i) (cd_ln w a) (fun j => cd_av w i a j)))
def cd_Hp (G : cd_Gl) (w : cd_Wd) (H : Heap) : Prop :=
  G.2.2.size ≤ H.size ∧ (∀ q, q < G.2.2.size → H[q]? = G.2.2[q]?) ∧ (∀ (a : Nat) (c : Cell), G.2.2.size ≤ a → H[a]? = some c → c.vm.isStatics = false) ∧
  ∀ a, cd_kd w a ≠ 0 → G.2.2.size ≤ a ∧ a < H.size ∧ cd_At G w H a
theorem cd_Hp.lt {G : cd_Gl} {w : cd_Wd} {H : Heap} (h : cd_Hp G w H) {a : Nat} (ha : cd_kd w a ≠ 0) : a < H.size := (h.2.2.2 a ha).2.1
theorem cd_Hp.ge {G : cd_Gl} {w : cd_Wd} {H : Heap} (h : cd_Hp G w H) {a : Nat} (ha : cd_kd w a ≠ 0) : G.2.2.size ≤ a := (h.2.2.2 a ha).1
theorem cd_Hp.obj {G : cd_Gl} {w : cd_Wd} {H : Heap} (h : cd_Hp G w H) {a ci : Nat} (ha : cd_kd w a = 2 * ci + 2) {q : vw_C} (hq : cd_cls[ci]? = some q) : t_OB a (G.1.1 ci) q.2.2 (G.1.2 ci) H (fun k => cd_fv w ci k a) := by
  obtain ⟨-, -, h3⟩ := h.2.2.2 a (by omega)
  obtain ⟨q', e1, e2⟩ := h3.1 ci ha
  cases Option.some.inj (e1.symm.trans hq)
  exact e2
theorem cd_Hp.arr {G : cd_Gl} {w : cd_Wd} {H : Heap} (h : cd_Hp G w H) {a i : Nat} (ha : cd_kd w a = 2 * i + 1) : H[a]? = some (arrV (G.2.1 i) (cd_ln w a) (fun j => cd_av w i a j)) := (h.2.2.2 a (by omega)).2.2.2 i ha
/-- a cell that isn't touched keeps what it holds, if the world says the same of it -/
theorem cd_At.kept {G : cd_Gl} {w w' : cd_Wd} {H H' : Heap} {a : Nat} (h : cd_At G w H a) (hq : H'[a]? = H[a]?) (hk : cd_kd w' a = cd_kd w a) (hl : cd_ln w' a = cd_ln w a)
    (hI : ∀ t j, cd_I w' t a j = cd_I w t a j) (hO : ∀ t j, cd_O w' t a j = cd_O w t a j) (hJ : ∀ j, cd_J w' a j = cd_J w a j) : cd_At G w' H' a := by
  refine ⟨fun ci hc => ?_, fun i hi => ?_⟩
  · obtain ⟨q, e1, e2⟩ := h.1 ci (hk ▸ hc)
    refine ⟨q, e1, (e2.kept hq).to fun k _ => ?_⟩
    simp only [cd_fv, hI, hO]
  · rw [hq, h.2 i (hk ▸ hi), hl]
    congr 2
    funext j
    simp only [cd_av, hI, hO, hJ]
/-- one cell of ours changes -/
theorem cd_Hp.upd {G : cd_Gl} {w w' : cd_Wd} {H H' : Heap} {a : Nat} (h : cd_Hp G w H) (hz : H'.size = H.size) (ho : ∀ q, q ≠ a → H'[q]? = H[q]?) (ha : cd_kd w a ≠ 0) (hs : ∀ c, H'[a]? = some c → c.vm.isStatics = false)
    (hk : ∀ b, cd_kd w' b = cd_kd w b) (hl : ∀ b, cd_ln w' b = cd_ln w b) (hI : ∀ t b j, b ≠ a → cd_I w' t b j = cd_I w t b j) (hO : ∀ t b j, b ≠ a → cd_O w' t b j = cd_O w t b j) (hJ : ∀ b j, b ≠ a → cd_J w' b j = cd_J w b j)
    (hat : cd_At G w' H' a) : cd_Hp G w' H' := by
  obtain ⟨h1, h2, h3, h4⟩ := id h
  have hge := h.ge ha
  refine ⟨by omega, fun q hq => ?_, fun b c hb hc => ?_, fun b hb => ?_⟩
  · rw [ho q (by omega)]; exact h2 q hq
  · by_cases e : b = a
    · subst e; exact hs c hc
    · rw [ho b e] at hc; exact h3 b c hb hc
  · rw [hk] at hb
    obtain ⟨g1, g2, g3⟩ := h4 b hb
    refine ⟨g1, by omega, ?_⟩
    by_cases e : b = a
    · subst e; exact hat
    · exact g3.kept (ho b e) (hk b) (hl b) (fun t j => hI t b j e) (fun t j => hO t b j e) (fun j => hJ b j e)
/-- a cell of no kind of ours comes (an exception) -/
theorem cd_Hp.grow {G : cd_Gl} {w : cd_Wd} {H H' : Heap} (h : cd_Hp G w H) (hz : H.size ≤ H'.size) (ho : ∀ q, q < H.size → H'[q]? = H[q]?) (hs : ∀ (q : Nat) (c : Cell), H.size ≤ q → H'[q]? = some c → c.vm.isStatics = false) : cd_Hp G w H' := by
  obtain ⟨h1, h2, h3, h4⟩ := id h
  refine ⟨by omega, fun q hq => ?_, fun b c hb hc => ?_, fun b hb => ?_⟩
  · rw [ho q (by omega)]; exact h2 q hq
  · by_cases e : b < H.size
    · rw [ho b e] at hc; exact h3 b c hb hc
    · exact hs b c (by omega) hc
  · obtain ⟨g1, g2, g3⟩ := h4 b hb
    exact ⟨g1, by omega, g3.kept (ho b g2) rfl rfl (fun _ _ => rfl) (fun _ _ => rfl) (fun _ => rfl)⟩
/-- a new cell of ours -/
theorem cd_Hp.push {G : cd_Gl} {w : cd_Wd} {H H' : Heap} {k n : Nat} (h : cd_Hp G w H) (hz : H'.size = H.size + 1) (ho : ∀ q, q < H.size → H'[q]? = H[q]?) (hs : ∀ c, H'[H.size]? = some c → c.vm.isStatics = false) (hat : cd_At G (cd_wN w H.size k n) H' H.size) : cd_Hp G (cd_wN w H.size k n) H' := by
  obtain ⟨h1, h2, h3, h4⟩ := id h
  refine ⟨by omega, fun q hq => ?_, fun b c hb hc => ?_, fun b hb => ?_⟩
  · rw [ho q (by omega)]; exact h2 q hq
  · by_cases e : b < H.size
    · rw [ho b e] at hc; exact h3 b c hb hc
    · by_cases e2 : b = H.size
      · subst e2; exact hs c hc
      · exfalso
        have := (Array.getElem?_eq_some_iff.mp hc).1
        omega
  · by_cases e : b = H.size
    · subst e; exact ⟨h1, by omega, hat⟩
    · rw [kd_wN, if_neg e] at hb
      obtain ⟨g1, g2, g3⟩ := h4 b hb
      refine ⟨g1, by omega, g3.kept (ho b g2) ?_ ?_ ?_ ?_ ?_⟩
      · rw [kd_wN, if_neg e]
      · rw [ln_wN, if_neg e]
      · intro t j; rw [I_wN, if_neg e]
      · intro t j; rw [O_wN, if_neg e]
      · intro j; rw [J_wN, if_neg e]
/-! ===== locals ===== -/
def cd_Lo (ls : Array Slot) (lv : List (Option Value)) : Prop := ls.size = lv.length ∧ lv_wf ls ∧ ∀ (i : Nat) (v : Value), lv[i]? = some (some v) → ls[i]? = some (.val v) ∧ v.category = 1
def cd_es (lv : List (Option Value)) : List (Nat × Value) := (List.range lv.length).filterMap fun i => match lv[i]? with
  | some (some v) => some (i, v)
  | _ => none
theorem cd_es_mem {lv : List (Option Value)} {i : Nat} {v : Value} : (i, v) ∈ cd_es lv ↔ lv[i]? = some (some v) := by
  simp only [cd_es, List.mem_filterMap, List.mem_range]
  constructor
  · rintro ⟨j, hj, h⟩
    split at h
    · next w hw => cases h; exact hw
    · cases h
  · intro h
    have hl : i < lv.length := (List.getElem?_eq_some_iff.mp h).1
    exact ⟨i, hl, by rw [h]⟩
theorem cd_Lo.has {ls : Array Slot} {lv : List (Option Value)} (h : cd_Lo ls lv) : lv_has ls lv.length (cd_es lv) := ⟨h.1, h.2.1, fun q hq => (h.2.2 q.1 q.2 (cd_es_mem.mp hq)).1⟩
theorem cd_Lo.set {ls ls' : Array Slot} {lv : List (Option Value)} {i : Nat} {v : Value} (h : cd_Lo ls lv) (hc : v.category = 1) (h' : lv_has ls' lv.length ((i, v) :: (cd_es lv).filter (fun q => !(q.1 == i) && !(q.1 + 1 == i && q.2.category == 2)))) : cd_Lo ls' (lv.set i (some v)) := by
  refine ⟨by rw [List.length_set]; exact h'.1, h'.2.1, fun j u hj => ?_⟩
  by_cases e : j = i
  · subst e
    have hl : j < (lv.set j (some v)).length := (List.getElem?_eq_some_iff.mp hj).1
    rw [List.length_set] at hl
    rw [List.getElem?_set_self hl] at hj
    cases hj
    exact ⟨h'.2.2 (j, v) List.mem_cons_self, hc⟩
  · rw [List.getElem?_set_ne (Ne.symm e)] at hj
    have hu := (h.2.2 j u hj).2
    refine ⟨h'.2.2 (j, u) (List.mem_cons_of_mem _ (List.mem_filter.mpr ⟨cd_es_mem.mpr hj, ?_⟩)), hu⟩
    simp [e, hu]
theorem cd_Lo.entry {vs : List Value} {n : Nat} (h1 : ∀ v ∈ vs, v.category = 1) (hn : vs.length ≤ n) : cd_Lo ((lg_sl vs ++ List.replicate (n - (lg_sl vs).length) Slot.unset).toArray) (vs.map some ++ List.replicate (n - vs.length) none) := by
  have hsl : ∀ us : List Value, (∀ v ∈ us, v.category = 1) → lg_sl us = us.map Slot.val := by
    intro us
    induction us with
    | nil => intro _; rfl
    | cons u us ih =>
      intro hu
      have h2 : u.category = 1 := hu u List.mem_cons_self
      have h3 := ih fun v hv => hu v (List.mem_cons_of_mem _ hv)
      simp only [lg_sl, List.flatMap_cons, h2] at h3 ⊢
      simp [h3]
  have hl : (lg_sl vs).length = vs.length := by rw [hsl vs h1, List.length_map]
  have e := lv_entry vs (n := n) (by rw [hl]; exact hn)
  refine ⟨?_, e.2.1, fun i v hi => ?_⟩
  · rw [e.1, List.length_append, List.length_map, List.length_replicate]; omega
  · by_cases hlt : i < vs.length
    · rw [List.getElem?_append_left (by simpa using hlt), List.getElem?_map] at hi
      cases hv : vs[i]? with
      | none => rw [hv] at hi; cases hi
      | some u =>
        rw [hv] at hi
        cases hi
        refine ⟨?_, h1 _ (List.mem_of_getElem? hv)⟩
        rw [hsl vs h1, List.getElem?_toArray, List.getElem?_append_left (by simpa using hlt), List.getElem?_map, hv]
        rfl
    · rw [List.getElem?_append_right (by simpa using Nat.le_of_not_lt hlt)] at hi
      have := List.eq_of_mem_replicate (List.mem_of_getElem? hi)
      cases this
end
section
/-! ===== TABLES: what every state of the run has =====
cd_gw: a word that the tables alone decide and that stays true when they are warmed -/
theorem cd_gw_at {c : Cond} (hc : cd_gw c = true) {a a' : Array Value} {s U : State} (hW : s.WarmedH U.vm) (h : c.before a s = true) : c.before a' U = true := by
  simp only [cd_gw, Bool.and_eq_true] at hc
  have h1 : c.before a (s.setVm U.vm) = true := Cond.before_shiftedFace (State.Shifted.of_warmed hW) c hc.2 h
  exact va_tabs hc.1 (rfl : (s.setVm U.vm).vm = U.vm) h1
def cd_tys (G : cd_Gl) : List (ClassId × FieldType) := (List.range cd_ty.length).filterMap fun i => (cd_ty[i]?).map fun t => (G.2.1 i, t)
theorem cd_tys_get {G : cd_Gl} {i : Nat} {t : FieldType} (h : cd_ty[i]? = some t) : ∃ k : Nat, (cd_tys G)[k]? = some (G.2.1 i, t) := by
  apply List.getElem?_of_mem
  exact List.mem_filterMap.mpr ⟨i, List.mem_range.mpr (List.getElem?_eq_some_iff.mp h).1, by rw [h]; rfl⟩
/-- a static of Throwable that holds a reference, at its place in the heap of the start -/
def cd_Zr (G : cd_Gl) (n d : String) (s : State) : Prop := ∃ (c : ClassId) (k : Class) (i : Nat) (f : Field) (a : Nat) (cell : Cell) (v : Value), s.vm.findClass Bundle.tN = some c ∧ s.fieldFound? Bundle.tN n d = some (c, k, i, f) ∧ f.isStatic = true ∧ k.statics = some a ∧ G.2.2[a]? = some cell ∧ cell.vm.isStatics = true ∧ cell.cls = c ∧ f.slot < cell.slots.size ∧ k.staticTypes[f.slot]? = some f.type ∧ cell.slots[f.slot]? = some v ∧ v.isRef = true
theorem cd_Zr.warm {G : cd_Gl} {n d : String} {s U : State} (hvm : s.vm.Alike U.vm) (h : cd_Zr G n d s) : cd_Zr G n d U := by
  obtain ⟨c, k, i, f, a, cell, v, h1, h2, h3, h4, h5, h6, h7, h8, h9, h10⟩ := h
  obtain ⟨k', e1, e2⟩ := State.fieldFound?_setVm hvm h2
  refine ⟨c, k', i, f, a, cell, v, by rw [hvm.findClass]; exact h1, e1, h3, by rw [e2]; exact h4, h5, h6, h7, h8, by rw [e2]; exact h9, h10⟩
def cd_Tb (G : cd_Gl) (s : State) : Prop :=
  (∀ c ∈ lw_tbl, cd_gw c = true → ∀ a, c.before a s = true) ∧ va_K G.1 cd_cls (cd_tys G) s ∧
  (∀ (i : Nat) (t : FieldType), cd_ty[i]? = some t → match t with
    | .object C => va_AO C s
    | t => (Cond.arrayClass t).before #[] s = true) ∧
  (∀ x ∈ cd_str, ∃ a, vk_R x.1 x.2.1 x.2.2 a s) ∧
  cd_Zr G "UNASSIGNED_STACK" Bundle.steD s ∧ cd_Zr G "SUPPRESSED_SENTINEL" Bundle.listD s ∧
  (∀ i j : Nat, 1 ≤ i → i ≤ 6 → 1 ≤ j → j ≤ 6 → i ≠ j → va_Nc (cd_ex i) (cd_ex j) s)
theorem cd_Tb.warm {G : cd_Gl} {s U : State} (hW : s.WarmedH U.vm) (h : cd_Tb G s) : cd_Tb G U := by
  obtain ⟨h1, h2, h3, h4, h5, h6, h7⟩ := h
  refine ⟨fun c hc hg a => cd_gw_at hg hW (h1 c hc hg #[]), h2.moved hW.alike, fun i t ht => ?_, fun x hx => ?_, h5.warm hW.alike, h6.warm hW.alike, fun i j a b c d e => (h7 i j a b c d e).moved hW.alike⟩
  · have h := h3 i t ht
    cases t with
    | object C => exact va_AO.moved hW.alike h
    | _ => exact word_at hW (Or.inr ⟨_, rfl⟩) h
  · obtain ⟨a, ha⟩ := h4 x hx
    exact ⟨a, ha.warm hW⟩
/-! ===== A FRAME: where a method stands ===== -/
abbrev cd_Cx : Type := Program × Env × Room × State × MethodId × Array Value × List Frame × Method × Code
abbrev cx_p (C : cd_Cx) : Program := C.1
abbrev cx_e (C : cd_Cx) : Env := C.2.1
abbrev cx_R (C : cd_Cx) : Room := C.2.2.1
abbrev cx_s (C : cd_Cx) : State := C.2.2.2.1
abbrev cx_m (C : cd_Cx) : MethodId := C.2.2.2.2.1
abbrev cx_a (C : cd_Cx) : Array Value := C.2.2.2.2.2.1
abbrev cx_b (C : cd_Cx) : List Frame := C.2.2.2.2.2.2.1
abbrev cx_h (C : cd_Cx) : Method := C.2.2.2.2.2.2.2.1
abbrev cx_c (C : cd_Cx) : Code := C.2.2.2.2.2.2.2.2
def cd_H0 (G : cd_Gl) (H : Heap) : Prop := G.2.2.size ≤ H.size ∧ (∀ q, q < G.2.2.size → H[q]? = G.2.2[q]?) ∧ ∀ (a : Nat) (c : Cell), G.2.2.size ≤ a → H[a]? = some c → c.vm.isStatics = false
theorem cd_Hp.h0 {G : cd_Gl} {w : cd_Wd} {H : Heap} (h : cd_Hp G w H) : cd_H0 G H := ⟨h.1, h.2.1, h.2.2.1⟩
/-- what holds in a frame of the method y: its bytes, its locals, its answer's type, its handlers; the tables -/
def cd_Ok (G : cd_Gl) (y : MethodName) (cc : ByteArray) (nL : Nat) (ret : Option FieldType) (ex : List (Nat × Nat × Nat × Nat)) (R : Room) (C : cd_Cx) : Prop :=
  (cx_p C).tables.exec = Jvm.exec ∧ (cx_c C).code = cc ∧ (cx_c C).maxLocals = nL ∧ (cx_s C).vm.findClass y.cls = some (cx_m C).cls ∧ (cx_h C).sig.returnType = ret ∧ (cx_h C).locks = false ∧ (cx_h C).name = y.name ∧
  cd_Tb G (cx_s C) ∧ (cx_c C).exceptionTable.toList.map (fun h => (h.startPc, h.endPc, h.handlerPc, h.catchType)) = ex ∧ cx_R C = R ∧ cd_H0 G (cx_s C).heap
/-- the machine, from this point of this frame, comes to Q -/
def cd_Go (G : cd_Gl) (l : Launch) (C : cd_Cx) (Q : State → Prop) (k n : Nat) (w : cd_Wd) (pc : Nat) (lv : List (Option Value)) (st : List Value) : Prop :=
  ∀ (H : Heap) (locs : List Loc) (ls : Array Slot), cd_Hp G w H → (∀ x ∈ locs, G.2.2.size ≤ x.base) → cd_Lo ls lv → W (cx_p C) l (cx_e C) (cx_R C) (cx_s C) (cx_m C) (cx_a C) (cx_b C) (cx_h C) (cx_c C) H locs k n Q (F0 (cx_m C) pc ls st)
section Rows
variable {G : cd_Gl} {l : Launch} {C : cd_Cx} {Q : State → Prop} {k n : Nat} {w : cd_Wd} {pc : Nat} {lv : List (Option Value)} {rest : List Value} {y : MethodName} {cc : ByteArray} {nL : Nat} {ret : Option FieldType} {ex : List (Nat × Nat × Nat × Nat)} {R : Room}
theorem g_iconst (O : cd_Ok G y cc nL ret ex R C) {i : Int} {v : Int32} (hd : decode cc pc = .ok (.iconst i, 1)) (hv : Int32.ofInt i = v) (h : cd_Go G l C Q k n w (pc + 1) lv (.int v :: rest)) : cd_Go G l C Q k n w pc lv rest :=
  fun H locs ls a b c => lv_iconst O.1 O.2.1 hd hv (h H locs ls a b c)
theorem g_bipush (O : cd_Ok G y cc nL ret ex R C) {i : Int} {v : Int32} (hd : decode cc pc = .ok (.bipush i, 2)) (hv : (Int8.ofInt i).toInt32 = v) (h : cd_Go G l C Q k n w (pc + 2) lv (.int v :: rest)) : cd_Go G l C Q k n w pc lv rest :=
  fun H locs ls a b c => lv_bipush O.1 O.2.1 hd hv (h H locs ls a b c)
theorem g_null (O : cd_Ok G y cc nL ret ex R C) (hd : decode cc pc = .ok (.aconst_null, 1)) (h : cd_Go G l C Q k n w (pc + 1) lv (va_rf none :: rest)) : cd_Go G l C Q k n w pc lv rest :=
  fun H locs ls a b c => lv_null O.1 O.2.1 hd (h H locs ls a b c)
theorem g_iload_n (O : cd_Ok G y cc nL ret ex R C) {f : Fin 4} (i : Nat) {v : Int32} (hd : decode cc pc = .ok (.iload_n f, 1)) (hi : (f : Nat) = i) (hv : lv[i]? = some (some (.int v))) (h : cd_Go G l C Q k n w (pc + 1) lv (.int v :: rest)) : cd_Go G l C Q k n w pc lv rest :=
  fun H locs ls a b c => lv_iload_n O.1 O.2.1 hd hi (c.2.2 _ _ hv).1 (h H locs ls a b c)
theorem g_iload (O : cd_Ok G y cc nL ret ex R C) {i : Nat} {v : Int32} (hd : decode cc pc = .ok (.iload i, 2)) (hv : lv[i]? = some (some (.int v))) (h : cd_Go G l C Q k n w (pc + 2) lv (.int v :: rest)) : cd_Go G l C Q k n w pc lv rest :=
  fun H locs ls a b c => lv_iload O.1 O.2.1 hd (c.2.2 _ _ hv).1 (h H locs ls a b c)
theorem g_aload_n (O : cd_Ok G y cc nL ret ex R C) {f : Fin 4} (i : Nat) {v : Nat} (hd : decode cc pc = .ok (.aload_n f, 1)) (hi : (f : Nat) = i) (hv : lv[i]? = some (some (.ref v))) (h : cd_Go G l C Q k n w (pc + 1) lv (.ref v :: rest)) : cd_Go G l C Q k n w pc lv rest :=
  fun H locs ls a b c => lv_aload_n O.1 O.2.1 hd hi (c.2.2 _ _ hv).1 (h H locs ls a b c)
theorem g_aload (O : cd_Ok G y cc nL ret ex R C) {i : Nat} {v : Nat} (hd : decode cc pc = .ok (.aload i, 2)) (hv : lv[i]? = some (some (.ref v))) (h : cd_Go G l C Q k n w (pc + 2) lv (.ref v :: rest)) : cd_Go G l C Q k n w pc lv rest :=
  fun H locs ls a b c => lv_aload O.1 O.2.1 hd (c.2.2 _ _ hv).1 (h H locs ls a b c)
theorem g_aload_nq (O : cd_Ok G y cc nL ret ex R C) {f : Fin 4} (i : Nat) {r : Option Nat} (hd : decode cc pc = .ok (.aload_n f, 1)) (hi : (f : Nat) = i) (hv : lv[i]? = some (some (va_rf r))) (h : cd_Go G l C Q k n w (pc + 1) lv (va_rf r :: rest)) : cd_Go G l C Q k n w pc lv rest := by
  intro H locs ls a b c
  have hc := (c.2.2 _ _ hv).1
  cases r with
  | none => exact lv_aload_nN O.1 O.2.1 hd hi hc (h H locs ls a b c)
  | some v => exact lv_aload_n O.1 O.2.1 hd hi hc (h H locs ls a b c)
theorem g_aloadq (O : cd_Ok G y cc nL ret ex R C) {i : Nat} {r : Option Nat} (hd : decode cc pc = .ok (.aload i, 2)) (hv : lv[i]? = some (some (va_rf r))) (h : cd_Go G l C Q k n w (pc + 2) lv (va_rf r :: rest)) : cd_Go G l C Q k n w pc lv rest := by
  intro H locs ls a b c
  have hc := (c.2.2 _ _ hv).1
  cases r with
  | none => exact lv_aloadN O.1 O.2.1 hd hc (h H locs ls a b c)
  | some v => exact lv_aload O.1 O.2.1 hd hc (h H locs ls a b c)
theorem g_istore_n (O : cd_Ok G y cc nL ret ex R C) {f : Fin 4} (i : Nat) {v : Int32} (hd : decode cc pc = .ok (.istore_n f, 1)) (hf : (f : Nat) = i) (hi : i < lv.length) (h : cd_Go G l C Q k n w (pc + 1) (lv.set i (some (.int v))) rest) : cd_Go G l C Q k n w pc lv (.int v :: rest) :=
  fun H locs _ a b c => lv_istore_n O.1 O.2.1 hd hf c.has hi rfl fun ls' h' => h H locs ls' a b (c.set rfl h')
theorem g_istore (O : cd_Ok G y cc nL ret ex R C) {i : Nat} {v : Int32} (hd : decode cc pc = .ok (.istore i, 2)) (hi : i < lv.length) (h : cd_Go G l C Q k n w (pc + 2) (lv.set i (some (.int v))) rest) : cd_Go G l C Q k n w pc lv (.int v :: rest) :=
  fun H locs _ a b c => lv_istore O.1 O.2.1 hd c.has hi rfl fun ls' h' => h H locs ls' a b (c.set rfl h')
theorem g_astore_n (O : cd_Ok G y cc nL ret ex R C) {f : Fin 4} (i : Nat) {v : Nat} (hd : decode cc pc = .ok (.astore_n f, 1)) (hf : (f : Nat) = i) (hi : i < lv.length) (h : cd_Go G l C Q k n w (pc + 1) (lv.set i (some (.ref v))) rest) : cd_Go G l C Q k n w pc lv (.ref v :: rest) :=
  fun H locs _ a b c => lv_astore_n O.1 O.2.1 hd hf c.has hi rfl fun ls' h' => h H locs ls' a b (c.set rfl h')
theorem g_astore (O : cd_Ok G y cc nL ret ex R C) {i : Nat} {v : Nat} (hd : decode cc pc = .ok (.astore i, 2)) (hi : i < lv.length) (h : cd_Go G l C Q k n w (pc + 2) (lv.set i (some (.ref v))) rest) : cd_Go G l C Q k n w pc lv (.ref v :: rest) :=
  fun H locs _ a b c => lv_astore O.1 O.2.1 hd c.has hi rfl fun ls' h' => h H locs ls' a b (c.set rfl h')
theorem g_astore_nq (O : cd_Ok G y cc nL ret ex R C) {f : Fin 4} (i : Nat) {r : Option Nat} (hd : decode cc pc = .ok (.astore_n f, 1)) (hf : (f : Nat) = i) (hi : i < lv.length) (h : cd_Go G l C Q k n w (pc + 1) (lv.set i (some (va_rf r))) rest) : cd_Go G l C Q k n w pc lv (va_rf r :: rest) := by
  intro H locs _ a b c
  cases r with
  | none => exact lv_astore_nN O.1 O.2.1 hd hf c.has hi rfl fun ls' h' => h H locs ls' a b (c.set rfl h')
  | some v => exact lv_astore_n O.1 O.2.1 hd hf c.has hi rfl fun ls' h' => h H locs ls' a b (c.set rfl h')
theorem g_astoreq (O : cd_Ok G y cc nL ret ex R C) {i : Nat} {r : Option Nat} (hd : decode cc pc = .ok (.astore i, 2)) (hi : i < lv.length) (h : cd_Go G l C Q k n w (pc + 2) (lv.set i (some (va_rf r))) rest) : cd_Go G l C Q k n w pc lv (va_rf r :: rest) := by
  intro H locs _ a b c
  cases r with
  | none => exact lv_astoreN O.1 O.2.1 hd c.has hi rfl fun ls' h' => h H locs ls' a b (c.set rfl h')
  | some v => exact lv_astore O.1 O.2.1 hd c.has hi rfl fun ls' h' => h H locs ls' a b (c.set rfl h')
theorem g_iinc (O : cd_Ok G y cc nL ret ex R C) {i : Nat} {d : Int} {x v : Int32} (hd : decode cc pc = .ok (.iinc i d, 3)) (hv : lv[i]? = some (some (.int x))) (he : x + Int32.ofInt d = v) (h : cd_Go G l C Q k n w (pc + 3) (lv.set i (some (.int v))) rest) : cd_Go G l C Q k n w pc lv rest := by
  intro H locs _ a b c
  obtain ⟨z, hz⟩ := List.getElem?_of_mem (cd_es_mem.mpr hv)
  exact lv_iinc O.1 O.2.1 hd c.has hz he (List.getElem?_eq_some_iff.mp hv).1 rfl fun ls' h' => h H locs ls' a b (c.set rfl h')
theorem g_iadd (O : cd_Ok G y cc nL ret ex R C) {x z : Int32} (hd : decode cc pc = .ok (.iadd, 1)) (h : cd_Go G l C Q k n w (pc + 1) lv (.int (x + z) :: rest)) : cd_Go G l C Q k n w pc lv (.int z :: .int x :: rest) :=
  fun H locs ls a b c => lv_iadd O.1 O.2.1 hd (h H locs ls a b c)
theorem g_isub (O : cd_Ok G y cc nL ret ex R C) {x z : Int32} (hd : decode cc pc = .ok (.isub, 1)) (h : cd_Go G l C Q k n w (pc + 1) lv (.int (x - z) :: rest)) : cd_Go G l C Q k n w pc lv (.int z :: .int x :: rest) :=
  fun H locs ls a b c => lv_isub O.1 O.2.1 hd (h H locs ls a b c)
theorem g_imul (O : cd_Ok G y cc nL ret ex R C) {x z : Int32} (hd : decode cc pc = .ok (.imul, 1)) (h : cd_Go G l C Q k n w (pc + 1) lv (.int (x * z) :: rest)) : cd_Go G l C Q k n w pc lv (.int z :: .int x :: rest) :=
  fun H locs ls a b c => lv_imul O.1 O.2.1 hd (h H locs ls a b c)
theorem g_iand (O : cd_Ok G y cc nL ret ex R C) {x z : Int32} (hd : decode cc pc = .ok (.iand, 1)) (h : cd_Go G l C Q k n w (pc + 1) lv (.int (x &&& z) :: rest)) : cd_Go G l C Q k n w pc lv (.int z :: .int x :: rest) :=
  fun H locs ls a b c => lv_iand O.1 O.2.1 hd (h H locs ls a b c)
theorem g_ior (O : cd_Ok G y cc nL ret ex R C) {x z : Int32} (hd : decode cc pc = .ok (.ior, 1)) (h : cd_Go G l C Q k n w (pc + 1) lv (.int (x ||| z) :: rest)) : cd_Go G l C Q k n w pc lv (.int z :: .int x :: rest) :=
  fun H locs ls a b c => lv_ior O.1 O.2.1 hd (h H locs ls a b c)
theorem g_ixor (O : cd_Ok G y cc nL ret ex R C) {x z : Int32} (hd : decode cc pc = .ok (.ixor, 1)) (h : cd_Go G l C Q k n w (pc + 1) lv (.int (x ^^^ z) :: rest)) : cd_Go G l C Q k n w pc lv (.int z :: .int x :: rest) :=
  fun H locs ls a b c => lv_ixor O.1 O.2.1 hd (h H locs ls a b c)
theorem g_idiv (O : cd_Ok G y cc nL ret ex R C) {x z : Int32} (hd : decode cc pc = .ok (.idiv, 1)) (hz : z ≠ 0) (h : cd_Go G l C Q k n w (pc + 1) lv (.int (x / z) :: rest)) : cd_Go G l C Q k n w pc lv (.int z :: .int x :: rest) :=
  fun H locs ls a b c => lv_idiv O.1 O.2.1 hd hz (h H locs ls a b c)
theorem g_irem (O : cd_Ok G y cc nL ret ex R C) {x z : Int32} (hd : decode cc pc = .ok (.irem, 1)) (hz : z ≠ 0) (h : cd_Go G l C Q k n w (pc + 1) lv (.int (x - x / z * z) :: rest)) : cd_Go G l C Q k n w pc lv (.int z :: .int x :: rest) :=
  fun H locs ls a b c => lv_irem O.1 O.2.1 hd hz (h H locs ls a b c)
theorem g_dup2 (O : cd_Ok G y cc nL ret ex R C) {u v : Value} (hd : decode cc pc = .ok (.dup2, 1)) (hu : u.category = 1) (hv : v.category = 1) (h : cd_Go G l C Q k n w (pc + 1) lv (u :: v :: u :: v :: rest)) : cd_Go G l C Q k n w pc lv (u :: v :: rest) :=
  fun H locs ls a b c => lv_dup2_11 O.1 O.2.1 hd hu hv (h H locs ls a b c)
theorem g_sipush (O : cd_Ok G y cc nL ret ex R C) {i : Int} {v : Int32} (hd : decode cc pc = .ok (.sipush i, 3)) (hv : (Int16.ofInt i).toInt32 = v) (h : cd_Go G l C Q k n w (pc + 3) lv (.int v :: rest)) : cd_Go G l C Q k n w pc lv rest :=
  fun H locs ls a b c => lv_sipush O.1 O.2.1 hd hv (h H locs ls a b c)
theorem g_i2l (O : cd_Ok G y cc nL ret ex R C) {x : Int32} {v : Int64} (hd : decode cc pc = .ok (.i2l, 1)) (hv : x.toInt64 = v) (h : cd_Go G l C Q k n w (pc + 1) lv (.long v :: rest)) : cd_Go G l C Q k n w pc lv (.int x :: rest) :=
  fun H locs ls a b c => lv_i2l O.1 O.2.1 hd hv (h H locs ls a b c)
theorem g_dup (O : cd_Ok G y cc nL ret ex R C) {v : Value} (hd : decode cc pc = .ok (.dup, 1)) (hv : v.category = 1) (h : cd_Go G l C Q k n w (pc + 1) lv (v :: v :: rest)) : cd_Go G l C Q k n w pc lv (v :: rest) :=
  fun H locs ls a b c => lv_dup O.1 O.2.1 hd hv (h H locs ls a b c)
theorem g_pop (O : cd_Ok G y cc nL ret ex R C) {v : Value} (hd : decode cc pc = .ok (.pop, 1)) (hv : v.category = 1) (h : cd_Go G l C Q k n w (pc + 1) lv rest) : cd_Go G l C Q k n w pc lv (v :: rest) :=
  fun H locs ls a b c => lv_pop O.1 O.2.1 hd hv (h H locs ls a b c)
theorem g_goto (O : cd_Ok G y cc nL ret ex R C) {off : Int} (tgt : Nat) (hd : decode cc pc = .ok (.goto off, 3)) (ht : (pc : Int) + off = (tgt : Int)) (h : cd_Go G l C Q k n w tgt lv rest) : cd_Go G l C Q k n w pc lv rest :=
  fun H locs ls a b c => lv_goto O.1 O.2.1 hd ht (h H locs ls a b c)
theorem g_if_eq (O : cd_Ok G y cc nL ret ex R C) {x : Int32} {off : Int} (tgt : Nat) (hd : decode cc pc = .ok (.ifCond .eq off, 3)) (ht : (pc : Int) + off = (tgt : Int)) (h1 : x = 0 → cd_Go G l C Q k n w tgt lv rest) (h2 : ¬ x = 0 → cd_Go G l C Q k n w (pc + 3) lv rest) : cd_Go G l C Q k n w pc lv (.int x :: rest) :=
  fun H locs ls a b c => lv_if_eq O.1 O.2.1 hd ht (fun z => h1 z H locs ls a b c) (fun z => h2 z H locs ls a b c)
theorem g_icmp_eq (O : cd_Ok G y cc nL ret ex R C) {x z : Int32} {off : Int} (tgt : Nat) (hd : decode cc pc = .ok (.if_icmp .eq off, 3)) (ht : (pc : Int) + off = (tgt : Int)) (h1 : x = z → cd_Go G l C Q k n w tgt lv rest) (h2 : ¬ x = z → cd_Go G l C Q k n w (pc + 3) lv rest) : cd_Go G l C Q k n w pc lv (.int z :: .int x :: rest) :=
  fun H locs ls a b c => lv_icmp_eq O.1 O.2.1 hd ht (fun q => h1 q H locs ls a b c) (fun q => h2 q H locs ls a b c)
theorem g_if_ne (O : cd_Ok G y cc nL ret ex R C) {x : Int32} {off : Int} (tgt : Nat) (hd : decode cc pc = .ok (.ifCond .ne off, 3)) (ht : (pc : Int) + off = (tgt : Int)) (h1 : ¬ x = 0 → cd_Go G l C Q k n w tgt lv rest) (h2 : x = 0 → cd_Go G l C Q k n w (pc + 3) lv rest) : cd_Go G l C Q k n w pc lv (.int x :: rest) :=
  fun H locs ls a b c => lv_if_ne O.1 O.2.1 hd ht (fun z => h1 z H locs ls a b c) (fun z => h2 z H locs ls a b c)
theorem g_icmp_ne (O : cd_Ok G y cc nL ret ex R C) {x z : Int32} {off : Int} (tgt : Nat) (hd : decode cc pc = .ok (.if_icmp .ne off, 3)) (ht : (pc : Int) + off = (tgt : Int)) (h1 : ¬ x = z → cd_Go G l C Q k n w tgt lv rest) (h2 : x = z → cd_Go G l C Q k n w (pc + 3) lv rest) : cd_Go G l C Q k n w pc lv (.int z :: .int x :: rest) :=
  fun H locs ls a b c => lv_icmp_ne O.1 O.2.1 hd ht (fun q => h1 q H locs ls a b c) (fun q => h2 q H locs ls a b c)
theorem g_if_lt (O : cd_Ok G y cc nL ret ex R C) {x : Int32} {off : Int} (tgt : Nat) (hd : decode cc pc = .ok (.ifCond .lt off, 3)) (ht : (pc : Int) + off = (tgt : Int)) (h1 : x < 0 → cd_Go G l C Q k n w tgt lv rest) (h2 : ¬ x < 0 → cd_Go G l C Q k n w (pc + 3) lv rest) : cd_Go G l C Q k n w pc lv (.int x :: rest) :=
  fun H locs ls a b c => lv_if_lt O.1 O.2.1 hd ht (fun z => h1 z H locs ls a b c) (fun z => h2 z H locs ls a b c)
theorem g_icmp_lt (O : cd_Ok G y cc nL ret ex R C) {x z : Int32} {off : Int} (tgt : Nat) (hd : decode cc pc = .ok (.if_icmp .lt off, 3)) (ht : (pc : Int) + off = (tgt : Int)) (h1 : x < z → cd_Go G l C Q k n w tgt lv rest) (h2 : ¬ x < z → cd_Go G l C Q k n w (pc + 3) lv rest) : cd_Go G l C Q k n w pc lv (.int z :: .int x :: rest) :=
  fun H locs ls a b c => lv_icmp_lt O.1 O.2.1 hd ht (fun q => h1 q H locs ls a b c) (fun q => h2 q H locs ls a b c)
theorem g_if_ge (O : cd_Ok G y cc nL ret ex R C) {x : Int32} {off : Int} (tgt : Nat) (hd : decode cc pc = .ok (.ifCond .ge off, 3)) (ht : (pc : Int) + off = (tgt : Int)) (h1 : 0 ≤ x → cd_Go G l C Q k n w tgt lv rest) (h2 : ¬ 0 ≤ x → cd_Go G l C Q k n w (pc + 3) lv rest) : cd_Go G l C Q k n w pc lv (.int x :: rest) :=
  fun H locs ls a b c => lv_if_ge O.1 O.2.1 hd ht (fun z => h1 z H locs ls a b c) (fun z => h2 z H locs ls a b c)
theorem g_icmp_ge (O : cd_Ok G y cc nL ret ex R C) {x z : Int32} {off : Int} (tgt : Nat) (hd : decode cc pc = .ok (.if_icmp .ge off, 3)) (ht : (pc : Int) + off = (tgt : Int)) (h1 : z ≤ x → cd_Go G l C Q k n w tgt lv rest) (h2 : ¬ z ≤ x → cd_Go G l C Q k n w (pc + 3) lv rest) : cd_Go G l C Q k n w pc lv (.int z :: .int x :: rest) :=
  fun H locs ls a b c => lv_icmp_ge O.1 O.2.1 hd ht (fun q => h1 q H locs ls a b c) (fun q => h2 q H locs ls a b c)
theorem g_if_gt (O : cd_Ok G y cc nL ret ex R C) {x : Int32} {off : Int} (tgt : Nat) (hd : decode cc pc = .ok (.ifCond .gt off, 3)) (ht : (pc : Int) + off = (tgt : Int)) (h1 : 0 < x → cd_Go G l C Q k n w tgt lv rest) (h2 : ¬ 0 < x → cd_Go G l C Q k n w (pc + 3) lv rest) : cd_Go G l C Q k n w pc lv (.int x :: rest) :=
  fun H locs ls a b c => lv_if_gt O.1 O.2.1 hd ht (fun z => h1 z H locs ls a b c) (fun z => h2 z H locs ls a b c)
theorem g_icmp_gt (O : cd_Ok G y cc nL ret ex R C) {x z : Int32} {off : Int} (tgt : Nat) (hd : decode cc pc = .ok (.if_icmp .gt off, 3)) (ht : (pc : Int) + off = (tgt : Int)) (h1 : z < x → cd_Go G l C Q k n w tgt lv rest) (h2 : ¬ z < x → cd_Go G l C Q k n w (pc + 3) lv rest) : cd_Go G l C Q k n w pc lv (.int z :: .int x :: rest) :=
  fun H locs ls a b c => lv_icmp_gt O.1 O.2.1 hd ht (fun q => h1 q H locs ls a b c) (fun q => h2 q H locs ls a b c)
theorem g_if_le (O : cd_Ok G y cc nL ret ex R C) {x : Int32} {off : Int} (tgt : Nat) (hd : decode cc pc = .ok (.ifCond .le off, 3)) (ht : (pc : Int) + off = (tgt : Int)) (h1 : x ≤ 0 → cd_Go G l C Q k n w tgt lv rest) (h2 : ¬ x ≤ 0 → cd_Go G l C Q k n w (pc + 3) lv rest) : cd_Go G l C Q k n w pc lv (.int x :: rest) :=
  fun H locs ls a b c => lv_if_le O.1 O.2.1 hd ht (fun z => h1 z H locs ls a b c) (fun z => h2 z H locs ls a b c)
theorem g_icmp_le (O : cd_Ok G y cc nL ret ex R C) {x z : Int32} {off : Int} (tgt : Nat) (hd : decode cc pc = .ok (.if_icmp .le off, 3)) (ht : (pc : Int) + off = (tgt : Int)) (h1 : x ≤ z → cd_Go G l C Q k n w tgt lv rest) (h2 : ¬ x ≤ z → cd_Go G l C Q k n w (pc + 3) lv rest) : cd_Go G l C Q k n w pc lv (.int z :: .int x :: rest) :=
  fun H locs ls a b c => lv_icmp_le O.1 O.2.1 hd ht (fun q => h1 q H locs ls a b c) (fun q => h2 q H locs ls a b c)
theorem g_acmp_eq (O : cd_Ok G y cc nL ret ex R C) {x z : Option Nat} {off : Int} (tgt : Nat) (hd : decode cc pc = .ok (.if_acmp .eq off, 3)) (ht : (pc : Int) + off = (tgt : Int)) (h1 : x = z → cd_Go G l C Q k n w tgt lv rest) (h2 : ¬ x = z → cd_Go G l C Q k n w (pc + 3) lv rest) : cd_Go G l C Q k n w pc lv (va_rf z :: va_rf x :: rest) :=
  fun H locs ls a b c => lv_acmp_eq O.1 O.2.1 hd ht (fun q => h1 q H locs ls a b c) (fun q => h2 q H locs ls a b c)
theorem g_acmp_ne (O : cd_Ok G y cc nL ret ex R C) {x z : Option Nat} {off : Int} (tgt : Nat) (hd : decode cc pc = .ok (.if_acmp .ne off, 3)) (ht : (pc : Int) + off = (tgt : Int)) (h1 : ¬ x = z → cd_Go G l C Q k n w tgt lv rest) (h2 : x = z → cd_Go G l C Q k n w (pc + 3) lv rest) : cd_Go G l C Q k n w pc lv (va_rf z :: va_rf x :: rest) :=
  fun H locs ls a b c => lv_acmp_ne O.1 O.2.1 hd ht (fun q => h1 q H locs ls a b c) (fun q => h2 q H locs ls a b c)
theorem g_ifnull (O : cd_Ok G y cc nL ret ex R C) {r : Option Nat} {off : Int} (tgt : Nat) (hd : decode cc pc = .ok (.ifnull off, 3)) (ht : (pc : Int) + off = (tgt : Int)) (h1 : r = none → cd_Go G l C Q k n w tgt lv rest) (h2 : ∀ x, r = some x → cd_Go G l C Q k n w (pc + 3) lv rest) : cd_Go G l C Q k n w pc lv (va_rf r :: rest) := by
  intro H locs ls a b c
  cases r with
  | none => exact lv_ifnullN O.1 O.2.1 hd ht (h1 rfl H locs ls a b c)
  | some x => exact lv_ifnull O.1 O.2.1 hd (h2 x rfl H locs ls a b c)
theorem g_ifnonnull (O : cd_Ok G y cc nL ret ex R C) {r : Option Nat} {off : Int} (tgt : Nat) (hd : decode cc pc = .ok (.ifnonnull off, 3)) (ht : (pc : Int) + off = (tgt : Int)) (h1 : ∀ x, r = some x → cd_Go G l C Q k n w tgt lv rest) (h2 : r = none → cd_Go G l C Q k n w (pc + 3) lv rest) : cd_Go G l C Q k n w pc lv (va_rf r :: rest) := by
  intro H locs ls a b c
  cases r with
  | none => exact lv_ifnonnullN O.1 O.2.1 hd (h2 rfl H locs ls a b c)
  | some x => exact lv_ifnonnull O.1 O.2.1 hd ht (h1 x rfl H locs ls a b c)
/-! ### the classes of ours -/
theorem cd_word (O : cd_Ok G y cc nL ret ex R C) {c : Cond} (hm : c ∈ lw_tbl ∧ cd_gw c = true) : c.before (cx_a C) (cx_s C) = true := O.2.2.2.2.2.2.2.1.1 c hm.1 hm.2 _
theorem cd_hts (O : cd_Ok G y cc nL ret ex R C) : ∀ c ∈ lw_tbl.filter cd_gw, c.before (cx_a C) (cx_s C) = true := fun c hc => cd_word O ⟨(List.mem_filter.mp hc).1, (List.mem_filter.mp hc).2⟩
theorem cd_K (O : cd_Ok G y cc nL ret ex R C) : va_K G.1 cd_cls (cd_tys G) (cx_s C) := O.2.2.2.2.2.2.2.1.2.1
def cd_tR : FieldType → Bool
  | .object _ => true
  | .array _ => true
  | _ => false
def cd_tI : FieldType → Bool
  | .int => true
  | .boolean => true
  | _ => false
/-- a class of ours: its number, its row, its fields' types -/
def cd_Cl (ci : Nat) (q : vw_C) (ty : Nat → FieldType) : Prop := cd_cls[ci]? = some q ∧ (∀ c ∈ u_ws q.1 q.2.1 q.2.2, c ∈ lw_tbl ∧ cd_gw c = true) ∧ (∀ k, k < q.2.2 → parseFieldDescriptor (q.2.1 k).2.2.1 = some (ty k)) ∧ (∀ a, a < q.2.2 → ∀ b, b < q.2.2 → a ≠ b → (q.2.1 a).2.1 ≠ (q.2.1 b).2.1) ∧ q.2.2 ≤ 32 ∧ ∀ k, k < q.2.2 → (if cd_rf ci k then cd_tR (ty k) else cd_tI (ty k)) = true
theorem cd_Cl.in {ci : Nat} {q : vw_C} {ty : Nat → FieldType} (h : cd_Cl ci q ty) : ∀ c ∈ u_ws q.1 q.2.1 q.2.2, c ∈ lw_tbl.filter cd_gw := fun c hc => List.mem_filter.mpr (h.2.1 c hc)
theorem g_get (O : cd_Ok G y cc nL ret ex R C) {ci : Nat} {q : vw_C} {ty : Nat → FieldType} (hC : cd_Cl ci q ty) {a : Nat} (fk : Nat) {idx : Nat} (hk : fk < q.2.2) (ha : cd_kd w a = 2 * ci + 2)
    (hl : Cond.fieldLink y.cls idx (q.2.1 fk).1 (q.2.1 fk).2.1 (q.2.1 fk).2.2.1 ∈ lw_tbl ∧ cd_gw (Cond.fieldLink y.cls idx (q.2.1 fk).1 (q.2.1 fk).2.1 (q.2.1 fk).2.2.1) = true) (hd : decode cc pc = .ok (.getfield idx, 3))
    (h : cd_Go G l C Q k n w (pc + 3) lv (cd_fv w ci fk a :: rest)) : cd_Go G l C Q k n w pc lv (.ref a :: rest) := by
  intro H locs ls a1 b1 c1
  have hP : va_P G.1 cd_cls [(a, .inr (ci, (List.range q.2.2).map fun k => cd_fv w ci k a))] H := by
    intro z x hx
    have hz : z < 1 := (List.getElem?_eq_some_iff.mp hx).1
    rw [show z = 0 by omega] at hx
    cases hx
    refine ⟨q, hC.1, (a1.obj ha hC.1).to fun j hj => ?_⟩
    simp [vp_V, hj]
  exact va_get (D := G.1) (v := cd_fv w ci fk a) O.1 O.2.1 (cd_hts O) hC.in O.2.2.2.1 (cd_K O) hP 0 rfl hC.1 fk hk (cd_word O hl) (fun _ h9 => h9) (by simp [hk]) hd (h H locs ls a1 b1 c1)
theorem g_getI (O : cd_Ok G y cc nL ret ex R C) {ci : Nat} {q : vw_C} {ty : Nat → FieldType} (hC : cd_Cl ci q ty) {a : Nat} (fk : Nat) {idx : Nat} (hk : fk < q.2.2) (hr : cd_rf ci fk = false) (ha : cd_kd w a = 2 * ci + 2)
    (hl : Cond.fieldLink y.cls idx (q.2.1 fk).1 (q.2.1 fk).2.1 (q.2.1 fk).2.2.1 ∈ lw_tbl ∧ cd_gw (Cond.fieldLink y.cls idx (q.2.1 fk).1 (q.2.1 fk).2.1 (q.2.1 fk).2.2.1) = true) (hd : decode cc pc = .ok (.getfield idx, 3))
    (h : cd_Go G l C Q k n w (pc + 3) lv (.int (cd_I w (32 * ci + fk) a 0) :: rest)) : cd_Go G l C Q k n w pc lv (.ref a :: rest) :=
  g_get O hC fk hk ha hl hd (by rw [cd_fv, hr]; exact h)
theorem g_getO (O : cd_Ok G y cc nL ret ex R C) {ci : Nat} {q : vw_C} {ty : Nat → FieldType} (hC : cd_Cl ci q ty) {a : Nat} (fk : Nat) {idx : Nat} (hk : fk < q.2.2) (hr : cd_rf ci fk = true) (ha : cd_kd w a = 2 * ci + 2)
    (hl : Cond.fieldLink y.cls idx (q.2.1 fk).1 (q.2.1 fk).2.1 (q.2.1 fk).2.2.1 ∈ lw_tbl ∧ cd_gw (Cond.fieldLink y.cls idx (q.2.1 fk).1 (q.2.1 fk).2.1 (q.2.1 fk).2.2.1) = true) (hd : decode cc pc = .ok (.getfield idx, 3))
    (h : cd_Go G l C Q k n w (pc + 3) lv (va_rf (cd_O w (32 * ci + fk) a 0) :: rest)) : cd_Go G l C Q k n w pc lv (.ref a :: rest) :=
  g_get O hC fk hk ha hl hd (by rw [cd_fv, hr]; exact h)
/-- a field whose reference is known -/
theorem g_getS (O : cd_Ok G y cc nL ret ex R C) {ci : Nat} {q : vw_C} {ty : Nat → FieldType} (hC : cd_Cl ci q ty) {a b : Nat} (fk : Nat) {idx : Nat} (hk : fk < q.2.2) (hr : cd_rf ci fk = true) (ha : cd_kd w a = 2 * ci + 2)
    (hl : Cond.fieldLink y.cls idx (q.2.1 fk).1 (q.2.1 fk).2.1 (q.2.1 fk).2.2.1 ∈ lw_tbl ∧ cd_gw (Cond.fieldLink y.cls idx (q.2.1 fk).1 (q.2.1 fk).2.1 (q.2.1 fk).2.2.1) = true) (hd : decode cc pc = .ok (.getfield idx, 3)) (hb : cd_O w (32 * ci + fk) a 0 = some b)
    (h : cd_Go G l C Q k n w (pc + 3) lv (.ref b :: rest)) : cd_Go G l C Q k n w pc lv (.ref a :: rest) :=
  g_getO O hC fk hk hr ha hl hd (by rw [hb]; exact h)
theorem g_put (O : cd_Ok G y cc nL ret ex R C) {ci : Nat} {q : vw_C} {ty : Nat → FieldType} (hC : cd_Cl ci q ty) {a : Nat} (fk : Nat) {idx : Nat} {v : Value} {w' : cd_Wd} (hk : fk < q.2.2) (ha : cd_kd w a = 2 * ci + 2) (hn : narrow (ty fk) v = v) (hf : fits (ty fk) v = true)
    (hfin : (q.2.1 fk).2.2.2 = false ∨ ((q.2.1 fk).2.2.2 = true ∧ y.name = "<init>" ∧ (q.2.1 fk).1 = y.cls))
    (hl : Cond.fieldLink y.cls idx (q.2.1 fk).1 (q.2.1 fk).2.1 (q.2.1 fk).2.2.1 ∈ lw_tbl ∧ cd_gw (Cond.fieldLink y.cls idx (q.2.1 fk).1 (q.2.1 fk).2.1 (q.2.1 fk).2.2.1) = true) (hd : decode cc pc = .ok (.putfield idx, 3))
    (hk' : ∀ b, cd_kd w' b = cd_kd w b) (hl' : ∀ b, cd_ln w' b = cd_ln w b) (hI : ∀ t b j, b ≠ a → cd_I w' t b j = cd_I w t b j) (hO : ∀ t b j, b ≠ a → cd_O w' t b j = cd_O w t b j) (hJ : ∀ b j, b ≠ a → cd_J w' b j = cd_J w b j)
    (hv : ∀ j, j < q.2.2 → updV (fun k => cd_fv w ci k a) fk v j = cd_fv w' ci j a)
    (h : cd_Go G l C Q k n w' (pc + 3) lv rest) : cd_Go G l C Q k n w pc lv (v :: .ref a :: rest) := by
  intro H locs ls a1 b1 c1
  have hKK := cd_K O
  have hap := va_apart (own := y.cls) (cd_hts O) hC.in ty hC.2.2.1 hC.2.2.2.1 hKK hC.1
  obtain ⟨cell, q1, q2, q3, q4⟩ := a1.obj ha hC.1
  obtain ⟨hS, hfc, kC, hkC, hkind⟩ := hKK.1 ci _ hC.1
  obtain ⟨cf, kf, fi, f, hi, hsl⟩ := hS fk hk
  have hst := (u_facts hfc hkC (u_lays (cd_hts O) hC.in hk) hi).1
  have hge := a1.ge (a := a) (by omega)
  have fin : ∀ (H' : Heap), H'[a]? = some (cell.setSlot f.slot v) → H'.size = H.size → (∀ z, z ≠ a → H'[z]? = H[z]?) → W (cx_p C) l (cx_e C) (cx_R C) (cx_s C) (cx_m C) (cx_a C) (cx_b C) (cx_h C) (cx_c C) H' (locs ++ [⟨a, f.slot⟩]) k n Q (F0 (cx_m C) (pc + 3) ls rest) := by
    intro H' e1 e2 e3
    refine h H' _ ls (a1.upd e2 e3 (by omega) (fun c hc => ?_) hk' hl' hI hO hJ ⟨fun ci' hc' => ?_, fun i hi => ?_⟩) (t_lc b1 hge) c1
    · rw [e1] at hc
      cases hc
      show cell.vm.isStatics = false
      rw [q3]; rfl
    · rw [hk'] at hc'
      have hcc : ci' = ci := by omega
      subst hcc
      refine ⟨q, hC.1, t_OB.to (V := updV (fun k => cd_fv w ci' k a) fk v) ⟨_, e1, q2, q3, ?_⟩ hv⟩
      rw [hsl]
      exact t_set q4 hap hk v
    · rw [hk'] at hi; omega
  rcases hfin with hfin | ⟨hfin, hinit, hdecl⟩
  · have hlay := cd_hts O _ (hC.in _ (u_in_lay hk))
    unfold u_lay at hlay
    rw [if_neg (by rw [hfin]; decide)] at hlay
    have h6 := u_store hfc hkC hkind hlay hi (hC.2.2.1 fk hk) hn hf
    exact W.putK O.1 O.2.1 (f := f) ⟨O.2.2.2.1, cd_word O hl, ⟨_, _, _, hi⟩, hst⟩ (by rw [q2]; exact h6) q1 q3 (by rw [hsl]; exact k2_hasslot (q4 fk hk)) rfl rfl hd fin
  · have hlay := cd_hts O _ (hC.in _ (u_in_lay hk))
    unfold u_lay at hlay
    rw [if_pos hfin] at hlay
    have hcf : (cx_m C).cls = cf := by
      obtain ⟨_, _, c', _, _, _, -, -, hf', -, -, -, hown2, -⟩ := Cond.laysFinal_spec hlay
      have e1 : c' = cf := by have := hi.symm.trans hf'; simp at this; exact this.1.symm
      rw [hdecl] at hown2
      rw [← e1]; exact Option.some.inj (O.2.2.2.1.symm.trans hown2)
    have h6 := u_fits hfc hkC hkind (Or.inr hlay) hi (hC.2.2.1 fk hk) hn hf
    exact W.putFinK O.1 O.2.1 O.2.2.2.1 (cd_word O hl) hi hst hcf (by rw [O.2.2.2.2.2.2.1]; exact hinit) (by rw [q2]; exact h6) q1 q3 (by rw [hsl]; exact k2_hasslot (q4 fk hk)) rfl rfl hd fin
theorem g_putI (O : cd_Ok G y cc nL ret ex R C) {ci : Nat} {q : vw_C} {ty : Nat → FieldType} (hC : cd_Cl ci q ty) {a : Nat} (fk : Nat) {idx : Nat} {v : Int32} (hk : fk < q.2.2) (hr : cd_rf ci fk = false) (ha : cd_kd w a = 2 * ci + 2) (hn : ty fk = .int ∨ v = 0 ∨ v = 1)
    (hfin : (q.2.1 fk).2.2.2 = false ∨ ((q.2.1 fk).2.2.2 = true ∧ y.name = "<init>" ∧ (q.2.1 fk).1 = y.cls))
    (hl : Cond.fieldLink y.cls idx (q.2.1 fk).1 (q.2.1 fk).2.1 (q.2.1 fk).2.2.1 ∈ lw_tbl ∧ cd_gw (Cond.fieldLink y.cls idx (q.2.1 fk).1 (q.2.1 fk).2.1 (q.2.1 fk).2.2.1) = true) (hd : decode cc pc = .ok (.putfield idx, 3))
    (h : cd_Go G l C Q k n (cd_wI w (32 * ci + fk) a 0 v) (pc + 3) lv rest) : cd_Go G l C Q k n w pc lv (.int v :: .ref a :: rest) := by
  have hty := hC.2.2.2.2.2 fk hk
  rw [hr] at hty
  have h16 := hC.2.2.2.2.1
  refine g_put O hC fk hk ha ?_ ?_ hfin hl hd (kd_wI w _ a 0 v) (ln_wI w _ a 0 v) (fun t b j hb => ?_) (fun _ _ _ _ => rfl) (fun _ _ _ => rfl) (fun j hj => ?_) h
  · cases hz : ty fk <;> rw [hz] at hty <;> first | rfl | (simp [cd_tI] at hty; done) | skip
    rcases hn with h0 | h0 | h0
    · rw [hz] at h0; cases h0
    · subst h0; rfl
    · subst h0; rfl
  · cases hz : ty fk <;> rw [hz] at hty <;> first | rfl | (simp [cd_tI] at hty; done) | skip
    rcases hn with h0 | h0 | h0
    · rw [hz] at h0; cases h0
    · subst h0; rfl
    · subst h0; rfl
  · rw [I_wI, if_neg (fun z => hb z.2.1)]
  · by_cases e : j = fk
    · subst e
      simp [updV, cd_fv, hr, I_wI]
    · have : ¬ (32 * ci + j = 32 * ci + fk) := by omega
      simp [updV, cd_fv, e, I_wI, O_wI]
theorem g_putO (O : cd_Ok G y cc nL ret ex R C) {ci : Nat} {q : vw_C} {ty : Nat → FieldType} (hC : cd_Cl ci q ty) {a : Nat} (fk : Nat) {idx : Nat} {r : Option Nat} (hk : fk < q.2.2) (hr : cd_rf ci fk = true) (ha : cd_kd w a = 2 * ci + 2)
    (hfin : (q.2.1 fk).2.2.2 = false ∨ ((q.2.1 fk).2.2.2 = true ∧ y.name = "<init>" ∧ (q.2.1 fk).1 = y.cls))
    (hl : Cond.fieldLink y.cls idx (q.2.1 fk).1 (q.2.1 fk).2.1 (q.2.1 fk).2.2.1 ∈ lw_tbl ∧ cd_gw (Cond.fieldLink y.cls idx (q.2.1 fk).1 (q.2.1 fk).2.1 (q.2.1 fk).2.2.1) = true) (hd : decode cc pc = .ok (.putfield idx, 3))
    (h : cd_Go G l C Q k n (cd_wO w (32 * ci + fk) a 0 r) (pc + 3) lv rest) : cd_Go G l C Q k n w pc lv (va_rf r :: .ref a :: rest) := by
  have hty := hC.2.2.2.2.2 fk hk
  rw [hr] at hty
  refine g_put O hC fk hk ha ?_ ?_ hfin hl hd (kd_wO w _ a 0 r) (ln_wO w _ a 0 r) (fun _ _ _ _ => rfl) (fun t b j hb => ?_) (fun _ _ _ => rfl) (fun j hj => ?_) h
  · cases hz : ty fk <;> rw [hz] at hty <;> cases r <;> first | rfl | (simp [cd_tR] at hty; done)
  · cases hz : ty fk <;> rw [hz] at hty <;> cases r <;> first | rfl | (simp [cd_tR] at hty; done)
  · rw [O_wO, if_neg (fun z => hb z.2.1)]
  · by_cases e : j = fk
    · subst e
      simp [updV, cd_fv, hr, O_wO]
    · have : ¬ (32 * ci + j = 32 * ci + fk) := by omega
      simp [updV, cd_fv, e, I_wO, O_wO]
theorem g_putS (O : cd_Ok G y cc nL ret ex R C) {ci : Nat} {q : vw_C} {ty : Nat → FieldType} (hC : cd_Cl ci q ty) {a b : Nat} (fk : Nat) {idx : Nat} (hk : fk < q.2.2) (hr : cd_rf ci fk = true) (ha : cd_kd w a = 2 * ci + 2)
    (hfin : (q.2.1 fk).2.2.2 = false ∨ ((q.2.1 fk).2.2.2 = true ∧ y.name = "<init>" ∧ (q.2.1 fk).1 = y.cls))
    (hl : Cond.fieldLink y.cls idx (q.2.1 fk).1 (q.2.1 fk).2.1 (q.2.1 fk).2.2.1 ∈ lw_tbl ∧ cd_gw (Cond.fieldLink y.cls idx (q.2.1 fk).1 (q.2.1 fk).2.1 (q.2.1 fk).2.2.1) = true) (hd : decode cc pc = .ok (.putfield idx, 3))
    (h : cd_Go G l C Q k n (cd_wO w (32 * ci + fk) a 0 (some b)) (pc + 3) lv rest) : cd_Go G l C Q k n w pc lv (.ref b :: .ref a :: rest) :=
  g_putO (r := some b) O hC fk hk hr ha hfin hl hd h
theorem g_new (O : cd_Ok G y cc nL ret ex R C) {ci : Nat} {q : vw_C} {ty : Nat → FieldType} (hC : cd_Cl ci q ty) {idx : Nat} (hl : Cond.classLink y.cls idx q.1 ∈ lw_tbl ∧ cd_gw (Cond.classLink y.cls idx q.1) = true) (hi : Cond.instantiable q.1 q.2.2 ∈ lw_tbl ∧ cd_gw (Cond.instantiable q.1 q.2.2) = true) (hini : Cond.initialized q.1 ∈ lw_tbl ∧ cd_gw (Cond.initialized q.1) = true)
    (hd : decode cc pc = .ok (.new idx, 3)) (h1 : k + 1 ≤ R.cells) (h2 : n + q.2.2 ≤ R.slots) (h : ∀ b, cd_kd w b = 0 → cd_Go G l C Q (k + 1) (n + q.2.2) (cd_wN w b (2 * ci + 2) 0) (pc + 3) lv (.ref b :: rest)) : cd_Go G l C Q k n w pc lv rest := by
  intro H locs ls a1 b1 c1
  have hKn := (cd_K O).1 ci _ hC.1
  have hR := O.2.2.2.2.2.2.2.2.2.1
  refine W.newcK O.1 O.2.1 O.2.2.2.1 (cd_word O hl) (cd_word O hi) (cd_word O hini) rfl hd (by rw [hR]; exact h1) (by rw [hR]; exact h2) hKn.2.1 rfl fun H1 kC hkC e1 z1 o1 => ?_
  have h0 : cd_kd w H.size = 0 := by
    by_cases hz : cd_kd w H.size = 0
    · exact hz
    · exact absurd (a1.lt hz) (Nat.lt_irrefl _)
  refine h H.size h0 H1 locs ls (a1.push z1 o1 (fun c hc => by rw [e1] at hc; cases hc; rfl) ⟨fun ci' hc => ?_, fun i hi => ?_⟩) b1 c1
  · rw [kd_wN, if_pos rfl] at hc
    have hcc : ci' = ci := by omega
    subst hcc
    refine ⟨q, hC.1, (u_born ty (cd_hts O) hC.in hKn hkC e1 hC.2.2.1).to fun j hj => ?_⟩
    have hty := hC.2.2.2.2.2 j hj
    rw [cd_fv, I_wN, O_wN, if_pos rfl, if_pos rfl]
    cases hz : ty j <;> rw [hz] at hty <;> cases hrf : cd_rf ci' j <;> rw [hrf] at hty <;> first | rfl | (simp [cd_tI, cd_tR] at hty; done)
  · rw [kd_wN, if_pos rfl] at hi; omega
/-! ### arrays -/
theorem cd_ArT (O : cd_Ok G y cc nL ret ex R C) {i : Nat} {t : FieldType} (ht : cd_ty[i]? = some t) : ArrOfT (cx_s C) (G.2.1 i) t ∧ va_RA (cx_s C) (G.2.1 i) t := by
  obtain ⟨z, hz⟩ := cd_tys_get (G := G) ht
  exact (cd_K O).2 z _ hz
theorem g_alen (O : cd_Ok G y cc nL ret ex R C) {i a : Nat} {t : FieldType} (ht : cd_ty[i]? = some t) (ha : cd_kd w a = 2 * i + 1) (hd : decode cc pc = .ok (.arraylength, 1)) {v : Int32} (hv : (cd_ln w a).toInt32 = v)
    (h : cd_Go G l C Q k n w (pc + 1) lv (.int v :: rest)) : cd_Go G l C Q k n w pc lv (.ref a :: rest) := by
  intro H locs ls a1 b1 c1
  exact W.alen O.1 O.2.1 (a1.arr ha) ((cd_ArT O ht).1 _ _) (by rw [arrV_size]; exact hv) rfl rfl hd (h H locs ls a1 b1 c1)
theorem g_iald (O : cd_Ok G y cc nL ret ex R C) {a : Nat} (i : Nat) {x : Int32} (ht : cd_ty[i]? = some .int) (hk : cd_tk i = 0) (ha : cd_kd w a = 2 * i + 1) (hin : vp_in x (cd_ln w a)) (hd : decode cc pc = .ok (.iaload, 1))
    (h : cd_Go G l C Q k n w (pc + 1) lv (.int (cd_I w (1000 + i) a x.toNatClampNeg) :: rest)) : cd_Go G l C Q k n w pc lv (.int x :: .ref a :: rest) := by
  intro H locs ls a1 b1 c1
  have hlt : x.toNatClampNeg < cd_ln w a := Nat.not_le.mp fun q => hin (Or.inr q)
  exact W.iald (v := .int (cd_I w (1000 + i) a x.toNatClampNeg)) O.1 O.2.1 (a1.arr ha) ((cd_ArT O ht).1 _ _) (fun q => by cases q) (by rw [arrV_size]; exact hin) (by rw [arrV_read _ _ hlt]; simp [cd_av, hk]) rfl rfl hd (h H locs ls a1 b1 c1)
theorem g_zald (O : cd_Ok G y cc nL ret ex R C) {a : Nat} (i : Nat) {x : Int32} (ht : cd_ty[i]? = some .boolean) (hk : cd_tk i = 0) (ha : cd_kd w a = 2 * i + 1) (hin : vp_in x (cd_ln w a)) (hd : decode cc pc = .ok (.baload, 1))
    (h : cd_Go G l C Q k n w (pc + 1) lv (.int (cd_I w (1000 + i) a x.toNatClampNeg) :: rest)) : cd_Go G l C Q k n w pc lv (.int x :: .ref a :: rest) := by
  intro H locs ls a1 b1 c1
  have hlt : x.toNatClampNeg < cd_ln w a := Nat.not_le.mp fun q => hin (Or.inr q)
  exact W.zald (v := .int (cd_I w (1000 + i) a x.toNatClampNeg)) O.1 O.2.1 (a1.arr ha) ((cd_ArT O ht).1 _ _) (fun q => by cases q) (by rw [arrV_size]; exact hin) (by rw [arrV_read _ _ hlt]; simp [cd_av, hk]) rfl rfl hd (h H locs ls a1 b1 c1)
theorem g_lald (O : cd_Ok G y cc nL ret ex R C) {a : Nat} (i : Nat) {x : Int32} (ht : cd_ty[i]? = some .long) (hk : cd_tk i = 2) (ha : cd_kd w a = 2 * i + 1) (hin : vp_in x (cd_ln w a)) (hd : decode cc pc = .ok (.laload, 1))
    (h : cd_Go G l C Q k n w (pc + 1) lv (.long (cd_J w a x.toNatClampNeg) :: rest)) : cd_Go G l C Q k n w pc lv (.int x :: .ref a :: rest) := by
  intro H locs ls a1 b1 c1
  have hlt : x.toNatClampNeg < cd_ln w a := Nat.not_le.mp fun q => hin (Or.inr q)
  exact W.lald (v := .long (cd_J w a x.toNatClampNeg)) O.1 O.2.1 (a1.arr ha) ((cd_ArT O ht).1 _ _) (fun q => by cases q) (by rw [arrV_size]; exact hin) (by rw [arrV_read _ _ hlt]; simp [cd_av, hk]) rfl rfl hd (h H locs ls a1 b1 c1)
theorem g_aald (O : cd_Ok G y cc nL ret ex R C) {a : Nat} (i : Nat) {x : Int32} {D : String} (ht : cd_ty[i]? = some (.object D)) (hk : cd_tk i = 1) (ha : cd_kd w a = 2 * i + 1) (hin : vp_in x (cd_ln w a)) (hd : decode cc pc = .ok (.aaload, 1))
    (h : cd_Go G l C Q k n w (pc + 1) lv (va_rf (cd_O w (1000 + i) a x.toNatClampNeg) :: rest)) : cd_Go G l C Q k n w pc lv (.int x :: .ref a :: rest) := by
  intro H locs ls a1 b1 c1
  have hlt : x.toNatClampNeg < cd_ln w a := Nat.not_le.mp fun q => hin (Or.inr q)
  exact W.aald (v := va_rf (cd_O w (1000 + i) a x.toNatClampNeg)) (ty := .object D) O.1 O.2.1 (a1.arr ha) ((cd_ArT O ht).1 _ _) rfl (fun q => by cases q) (by rw [arrV_size]; exact hin) (by rw [arrV_read _ _ hlt]; simp [cd_av, hk]) rfl rfl hd (h H locs ls a1 b1 c1)
theorem g_aaldS (O : cd_Ok G y cc nL ret ex R C) {a b : Nat} (i : Nat) {x : Int32} {D : String} (ht : cd_ty[i]? = some (.object D)) (hk : cd_tk i = 1) (ha : cd_kd w a = 2 * i + 1) (hin : vp_in x (cd_ln w a)) (hd : decode cc pc = .ok (.aaload, 1)) (hb : cd_O w (1000 + i) a x.toNatClampNeg = some b)
    (h : cd_Go G l C Q k n w (pc + 1) lv (.ref b :: rest)) : cd_Go G l C Q k n w pc lv (.int x :: .ref a :: rest) :=
  g_aald O i ht hk ha hin hd (by rw [hb]; exact h)
/-- a place of an array of ours is written: what stays -/
theorem cd_ast {G : cd_Gl} {w w' : cd_Wd} {H H' : Heap} {a i j : Nat} {v : Value} (a1 : cd_Hp G w H) (ha : cd_kd w a = 2 * i + 1) (e1 : H'[a]? = some ((arrV (G.2.1 i) (cd_ln w a) (fun j => cd_av w i a j)).setSlot j v)) (e2 : H'.size = H.size) (e3 : ∀ q, q ≠ a → H'[q]? = H[q]?)
    (hk' : ∀ b, cd_kd w' b = cd_kd w b) (hl' : ∀ b, cd_ln w' b = cd_ln w b) (hI : ∀ t b j, b ≠ a → cd_I w' t b j = cd_I w t b j) (hO : ∀ t b j, b ≠ a → cd_O w' t b j = cd_O w t b j) (hJ : ∀ b j, b ≠ a → cd_J w' b j = cd_J w b j)
    (hv : ∀ z, updV (fun j => cd_av w i a j) j v z = cd_av w' i a z) : cd_Hp G w' H' := by
  refine a1.upd e2 e3 (by omega) (fun c hc => ?_) hk' hl' hI hO hJ ⟨fun ci hc => ?_, fun i' hi => ?_⟩
  · rw [e1] at hc
    cases hc
    rfl
  · rw [hk'] at hc; omega
  · rw [hk'] at hi
    have hii : i' = i := by omega
    subst hii
    rw [e1, arrV_store, hl']
    congr 2
    funext z
    exact hv z
theorem g_iast (O : cd_Ok G y cc nL ret ex R C) {a : Nat} (i : Nat) {x v : Int32} (ht : cd_ty[i]? = some .int) (hk : cd_tk i = 0) (ha : cd_kd w a = 2 * i + 1) (hin : vp_in x (cd_ln w a)) (hd : decode cc pc = .ok (.iastore, 1))
    (h : cd_Go G l C Q k n (cd_wI w (1000 + i) a x.toNatClampNeg v) (pc + 1) lv rest) : cd_Go G l C Q k n w pc lv (.int v :: .int x :: .ref a :: rest) := by
  intro H locs ls a1 b1 c1
  refine W.iast O.1 O.2.1 (a1.arr ha) ((cd_ArT O ht).1 _ _) (fun q => by cases q) (by rw [arrV_size]; exact hin) rfl rfl hd fun H' e1 e2 e3 => ?_
  refine h H' _ ls (cd_ast a1 ha e1 e2 e3 (kd_wI w _ a _ v) (ln_wI w _ a _ v) (fun t b j hb => by rw [I_wI, if_neg (fun z => hb z.2.1)]) (fun _ _ _ _ => rfl) (fun _ _ _ => rfl) fun z => ?_) (t_lc b1 (a1.ge (by omega))) c1
  simp only [updV, cd_av, hk, I_wI]
  by_cases e : z = x.toNatClampNeg <;> simp [e]
theorem g_zast (O : cd_Ok G y cc nL ret ex R C) {a : Nat} (i : Nat) {x v : Int32} (ht : cd_ty[i]? = some .boolean) (hk : cd_tk i = 0) (ha : cd_kd w a = 2 * i + 1) (hin : vp_in x (cd_ln w a)) (hv : v = 0 ∨ v = 1) (hd : decode cc pc = .ok (.bastore, 1))
    (h : cd_Go G l C Q k n (cd_wI w (1000 + i) a x.toNatClampNeg v) (pc + 1) lv rest) : cd_Go G l C Q k n w pc lv (.int v :: .int x :: .ref a :: rest) := by
  intro H locs ls a1 b1 c1
  have hnv : narrow .boolean (.int v) = .int v := by rcases hv with rfl | rfl <;> rfl
  refine W.zast O.1 O.2.1 (a1.arr ha) ((cd_ArT O ht).1 _ _) (fun q => by cases q) (by rw [arrV_size]; exact hin) rfl rfl hd fun H' e1 e2 e3 => ?_
  rw [hnv] at e1
  refine h H' _ ls (cd_ast a1 ha e1 e2 e3 (kd_wI w _ a _ v) (ln_wI w _ a _ v) (fun t b j hb => by rw [I_wI, if_neg (fun z => hb z.2.1)]) (fun _ _ _ _ => rfl) (fun _ _ _ => rfl) fun z => ?_) (t_lc b1 (a1.ge (by omega))) c1
  simp only [updV, cd_av, hk, I_wI]
  by_cases e : z = x.toNatClampNeg <;> simp [e]
theorem g_last (O : cd_Ok G y cc nL ret ex R C) {a : Nat} (i : Nat) {x : Int32} {v : Int64} (ht : cd_ty[i]? = some .long) (hk : cd_tk i = 2) (ha : cd_kd w a = 2 * i + 1) (hin : vp_in x (cd_ln w a)) (hd : decode cc pc = .ok (.lastore, 1))
    (h : cd_Go G l C Q k n (cd_wJ w a x.toNatClampNeg v) (pc + 1) lv rest) : cd_Go G l C Q k n w pc lv (.long v :: .int x :: .ref a :: rest) := by
  intro H locs ls a1 b1 c1
  refine W.last O.1 O.2.1 (a1.arr ha) ((cd_ArT O ht).1 _ _) (fun q => by cases q) (by rw [arrV_size]; exact hin) rfl rfl hd fun H' e1 e2 e3 => ?_
  refine h H' _ ls (cd_ast a1 ha e1 e2 e3 (kd_wJ w a _ v) (ln_wJ w a _ v) (fun _ _ _ _ => rfl) (fun _ _ _ _ => rfl) (fun b j hb => by rw [J_wJ, if_neg (fun z => hb z.1)]) fun z => ?_) (t_lc b1 (a1.ge (by omega))) c1
  simp only [updV, cd_av, hk, J_wJ]
  by_cases e : z = x.toNatClampNeg <;> simp [e]
theorem g_aast (O : cd_Ok G y cc nL ret ex R C) {a b : Nat} (i ci : Nat) {x : Int32} {q : vw_C} (ht : cd_ty[i]? = some (.object q.1)) (hk : cd_tk i = 1) (hc : cd_cls[ci]? = some q) (ha : cd_kd w a = 2 * i + 1) (hb : cd_kd w b = 2 * ci + 2) (hin : vp_in x (cd_ln w a)) (hd : decode cc pc = .ok (.aastore, 1))
    (h : cd_Go G l C Q k n (cd_wO w (1000 + i) a x.toNatClampNeg (some b)) (pc + 1) lv rest) : cd_Go G l C Q k n w pc lv (.ref b :: .int x :: .ref a :: rest) := by
  intro H locs ls a1 b1 c1
  have hlt : x.toNatClampNeg < cd_ln w a := Nat.not_le.mp fun q => hin (Or.inr q)
  have h0 : ¬ x < 0 := fun q => hin (Or.inl q)
  obtain ⟨cellV, g1, g2, g3, -⟩ := a1.obj hb hc
  have hcls := ((cd_K O).1 ci _ hc).2
  obtain ⟨kA, comp, k1, k2, k3, -⟩ := (cd_ArT O ht).2
  have hcomp : comp = G.1.1 ci := Option.some.inj (k3.symm.trans hcls.1)
  subst hcomp
  obtain ⟨kC, hkC, -⟩ := hcls.2
  refine W.aast O.1 O.2.1 (a1.arr ha) (fun q h => by cases h) (fun h => by cases h) k1 k2 rfl hkC ⟨h0, by rw [arrV_size]; exact hlt⟩ g1 (fun q h => by rw [g3] at h; cases h) (by rw [g2]; exact hkC) (by rw [g2]; exact va_assign hcls) rfl rfl hd fun H' e1 e2 e3 => ?_
  refine h H' _ ls (cd_ast a1 ha e1 e2 e3 (kd_wO w _ a _ (some b)) (ln_wO w _ a _ (some b)) (fun _ _ _ _ => rfl) (fun t b j hb => by rw [O_wO, if_neg (fun z => hb z.2.1)]) (fun _ _ _ => rfl) fun z => ?_) (t_lc b1 (a1.ge (by omega))) c1
  simp only [updV, cd_av, hk, O_wO]
  by_cases e : z = x.toNatClampNeg <;> simp [e, va_rf]
theorem g_aastN (O : cd_Ok G y cc nL ret ex R C) {a : Nat} (i : Nat) {x : Int32} {D : String} (ht : cd_ty[i]? = some (.object D)) (hk : cd_tk i = 1) (ha : cd_kd w a = 2 * i + 1) (hin : vp_in x (cd_ln w a)) (hd : decode cc pc = .ok (.aastore, 1))
    (h : cd_Go G l C Q k n (cd_wO w (1000 + i) a x.toNatClampNeg none) (pc + 1) lv rest) : cd_Go G l C Q k n w pc lv (va_rf none :: .int x :: .ref a :: rest) := by
  intro H locs ls a1 b1 c1
  refine va_WaastN (C := D) O.1 O.2.1 (a1.arr ha) ((cd_ArT O ht).1 _ _) (fun h => by cases h) (by rw [arrV_size]; exact hin) rfl rfl hd fun H' e1 e2 e3 => ?_
  refine h H' _ ls (cd_ast a1 ha e1 e2 e3 (kd_wO w _ a _ none) (ln_wO w _ a _ none) (fun _ _ _ _ => rfl) (fun t b j hb => by rw [O_wO, if_neg (fun z => hb z.2.1)]) (fun _ _ _ => rfl) fun z => ?_) (t_lc b1 (a1.ge (by omega))) c1
  simp only [updV, cd_av, hk, O_wO]
  by_cases e : z = x.toNatClampNeg <;> simp [e, va_rf]
/-- a reference that may be null goes into an array -/
theorem g_aastq (O : cd_Ok G y cc nL ret ex R C) {a : Nat} {r : Option Nat} (i ci : Nat) {x : Int32} {q : vw_C} (ht : cd_ty[i]? = some (.object q.1)) (hk : cd_tk i = 1) (hc : cd_cls[ci]? = some q) (ha : cd_kd w a = 2 * i + 1) (hb : ∀ b, r = some b → cd_kd w b = 2 * ci + 2) (hin : vp_in x (cd_ln w a)) (hd : decode cc pc = .ok (.aastore, 1))
    (h : cd_Go G l C Q k n (cd_wO w (1000 + i) a x.toNatClampNeg r) (pc + 1) lv rest) : cd_Go G l C Q k n w pc lv (va_rf r :: .int x :: .ref a :: rest) := by
  cases r with
  | none => exact g_aastN O i ht hk ha hin hd h
  | some b => exact g_aast O i ci ht hk hc ha (hb b rfl) hin hd h
theorem g_newa (O : cd_Ok G y cc nL ret ex R C) (i : Nat) {at' : ArrayType} {t : FieldType} {x : Int32} {N : Nat} (hat : newarray.typeOf at' = t) (ht : cd_ty[i]? = some t) (hkk : (cd_tk i = 0 ∧ defaultValue t = .int 0) ∨ (cd_tk i = 2 ∧ defaultValue t = .long 0)) (hd : decode cc pc = .ok (.newarray at', 2)) (hx : ¬ x < 0) (hN : x.toNatClampNeg = N) (hby : N * componentBytes t ≤ 536870912) (h1 : k + 1 ≤ R.cells) (h2 : n + N ≤ R.slots)
    (h : ∀ b, cd_kd w b = 0 → cd_Go G l C Q (k + 1) (n + N) (cd_wN w b (2 * i + 1) N) (pc + 2) lv (.ref b :: rest)) : cd_Go G l C Q k n w pc lv (.int x :: rest) := by
  subst hat
  intro H locs ls a1 b1 c1
  have hR := O.2.2.2.2.2.2.2.2.2.1
  have hac : (Cond.arrayClass (newarray.typeOf at')).before (cx_a C) (cx_s C) = true := by
    have h3 := O.2.2.2.2.2.2.2.1.2.2.1 i _ ht
    cases at' <;> exact h3
  have hcA : (cx_s C).vm.findClass ("[" ++ (newarray.typeOf at').toString) = some (G.2.1 i) := by
    have h3 := (cd_ArT O ht).2
    cases at' <;> exact h3
  refine va_newaK O.1 O.2.1 hac rfl hd rfl hx hN hby (by rw [hR]; exact h1) (by rw [hR]; exact h2) rfl fun H1 cA e1 z1 o1 _ hNm => ?_
  cases Option.some.inj (hNm.symm.trans hcA)
  have h0 : cd_kd w H.size = 0 := by
    by_cases hz : cd_kd w H.size = 0
    · exact hz
    · exact absurd (a1.lt hz) (Nat.lt_irrefl _)
  refine h H.size h0 H1 locs ls (a1.push z1 o1 (fun c hc => by rw [e1] at hc; cases hc; rfl) ⟨fun ci hc => ?_, fun i' hi => ?_⟩) b1 c1
  · rw [kd_wN, if_pos rfl] at hc; omega
  · rw [kd_wN, if_pos rfl] at hi
    have hii : i' = i := by omega
    subst hii
    rw [e1, ln_wN, if_pos rfl]
    congr 2
    funext j
    rcases hkk with ⟨hk0, hdv⟩ | ⟨hk0, hdv⟩ <;> rw [hdv] <;> simp [cd_av, hk0, I_wN, J_wN]
theorem g_anew (O : cd_Ok G y cc nL ret ex R C) (i : Nat) {D : String} {idx : Nat} {x : Int32} {N : Nat} (ht : cd_ty[i]? = some (.object D)) (hkk : cd_tk i = 1) (hl : Cond.classLink y.cls idx D ∈ lw_tbl ∧ cd_gw (Cond.classLink y.cls idx D) = true) (hd : decode cc pc = .ok (.anewarray idx, 3)) (hx : ¬ x < 0) (hN : x.toNatClampNeg = N) (hby : N * 4 ≤ 536870912) (h1 : k + 1 ≤ R.cells) (h2 : n + N ≤ R.slots)
    (h : ∀ b, cd_kd w b = 0 → cd_Go G l C Q (k + 1) (n + N) (cd_wN w b (2 * i + 1) N) (pc + 3) lv (.ref b :: rest)) : cd_Go G l C Q k n w pc lv (.int x :: rest) := by
  subst hN
  intro H locs ls a1 b1 c1
  have hR := O.2.2.2.2.2.2.2.2.2.1
  have hov : va_AO D (cx_s C) := O.2.2.2.2.2.2.2.1.2.2.1 i _ ht
  obtain ⟨kA, comp, k1, k2, k3, k4⟩ := (cd_ArT O ht).2
  refine W.anew O.1 O.2.1 O.2.2.2.1 (cd_word O hl) (va_AO.use hov) rfl hd rfl hx hby (by rw [hR]; exact h1) (by rw [hR]; exact h2) fun cA kA' comp' f1 f2 f3 f4 => ?_
  cases Option.some.inj (f1.symm.trans k4)
  generalize hH1 : H.push ({ cls := G.2.1 i, slots := Array.replicate x.toNatClampNeg .null, vm := .none } : Cell) = H1
  have z1 : H1.size = H.size + 1 := by rw [← hH1, Array.size_push]
  have e1 : H1[H.size]? = some (arrV (G.2.1 i) x.toNatClampNeg (fun _ => .null)) := by rw [← hH1, Array.getElem?_push_size, ← arrV_new]
  have o1 : ∀ q : Nat, q < H.size → H1[q]? = H[q]? := fun q hq => by rw [← hH1, Array.getElem?_push, if_neg (Nat.ne_of_lt hq)]
  have h0 : cd_kd w H.size = 0 := by
    by_cases hz : cd_kd w H.size = 0
    · exact hz
    · exact absurd (a1.lt hz) (Nat.lt_irrefl _)
  refine h H.size h0 H1 locs ls (a1.push z1 o1 (fun c hc => by rw [e1] at hc; cases hc; rfl) ⟨fun ci hc => ?_, fun i' hi => ?_⟩) b1 c1
  · rw [kd_wN, if_pos rfl] at hc; omega
  · rw [kd_wN, if_pos rfl] at hi
    have hii : i' = i := by omega
    subst hii
    rw [e1, ln_wN, if_pos rfl]
    congr 2
    funext j
    simp [cd_av, hkk, O_wN, va_rf]
/-- the script -/
theorem g_sld (O : cd_Ok G y cc nL ret ex R C) {b L : Nat} {xs : Nat → Int32} {x : Int32} (hX : va_X b L xs (cx_s C) G.2.2) (hb : b < G.2.2.size) (hin : vp_in x L) (hd : decode cc pc = .ok (.iaload, 1))
    (h : cd_Go G l C Q k n w (pc + 1) lv (.int (xs x.toNatClampNeg) :: rest)) : cd_Go G l C Q k n w pc lv (.int x :: .ref b :: rest) := by
  intro H locs ls a1 b1 c1
  obtain ⟨scr, h1, h2, h3, h4, h5⟩ := hX
  have hlt : x.toNatClampNeg < L := Nat.not_le.mp fun q => hin (Or.inr q)
  exact W.iald (v := .int (xs x.toNatClampNeg)) O.1 O.2.1 (by rw [a1.2.1 b hb]; exact h1) h2 h3 (by rw [h4]; exact hin) (h5 _ hlt) rfl rfl hd (h H locs ls a1 b1 c1)
theorem g_slen (O : cd_Ok G y cc nL ret ex R C) {b L : Nat} {xs : Nat → Int32} (hX : va_X b L xs (cx_s C) G.2.2) (hb : b < G.2.2.size) (hd : decode cc pc = .ok (.arraylength, 1))
    (h : cd_Go G l C Q k n w (pc + 1) lv (.int (nI L) :: rest)) : cd_Go G l C Q k n w pc lv (.ref b :: rest) := by
  intro H locs ls a1 b1 c1
  obtain ⟨scr, h1, h2, h3, h4, h5⟩ := hX
  exact W.alen O.1 O.2.1 (by rw [a1.2.1 b hb]; exact h1) h2 (by rw [h4]; rfl) rfl rfl hd (h H locs ls a1 b1 c1)
theorem g_lcmp (O : cd_Ok G y cc nL ret ex R C) {x z : Int64} (hd : decode cc pc = .ok (.lcmp, 1)) (h : cd_Go G l C Q k n w (pc + 1) lv (.int (lg_cmp x z) :: rest)) : cd_Go G l C Q k n w pc lv (.long z :: .long x :: rest) :=
  fun H locs ls a b c => W.lcmp O.1 O.2.1 hd (h H locs ls a b c)
end Rows
end
section
/-! ===== CONTRACTS: a method, called with these arguments in this world, ends so =====
what comes out: .inl v it returned v; .inr E it threw an exception of the class cd_ex E -/
abbrev cd_Out : Type := Option Value ⊕ Nat
def cd_rm (N mc ms : Nat) : Room := { frames := N, cells := mc, slots := ms, locals := 64 * N }
def cd_OQ (G : cd_Gl) (s : State) (Q : cd_Out → cd_Wd → Prop) (o : Outcome) (t : State) : Prop := match o with
  | .returned v => ∃ w, cd_Hp G w t.heap ∧ Q (.inl v) w
  | .threw x => ∃ (w : cd_Wd) (E : Nat) (ce : Cell), cd_Hp G w t.heap ∧ t.heap[x]? = some ce ∧ ce.vm = .none ∧ G.2.2.size ≤ x ∧ s.vm.findClass (cd_ex E) = some ce.cls ∧ Q (.inr E) w
def cd_MQ (G : cd_Gl) (s : State) (below : List Frame) (mc ms : Nat) (Q : cd_Out → cd_Wd → Prop) : State → Prop := fun t =>
  ∃ (o : Outcome) (L : List Loc), t.status = .running ∧ Ended t below o ∧ s.WarmedH t.vm ∧ s.sameButNew ({ t with vm := s.vm } : State) L mc ms ∧ (∀ q ∈ L, G.2.2.size ≤ q.base) ∧ cd_OQ G s Q o t
def cd_Ct (G : cd_Gl) (l : Launch) (y : MethodName) (N mc ms : Nat) (av : List Value) (w : cd_Wd) (Q : cd_Out → cd_Wd → Prop) : Prop :=
  ∀ (p : Program) (e : Env) (s : State) (m : MethodId) (below : List Frame) (meth : Method) (c : Code) (T : State), p.tables.exec = Jvm.exec → s.methodNamed? y = some m → cd_Tb G s → s.heap = T.heap → cd_Hp G w T.heap →
    Stand p l e (cd_rm N mc ms) s m av.toArray below meth c T [] 0 0 → ∃ t, Steps p.tables e below (T.setTop (entryFrame m av.toArray c.maxLocals)) t ∧ cd_MQ G s below mc ms Q t
/-- a contract out of the walk of the body -/
theorem cd_ofW {G : cd_Gl} {l : Launch} {y : MethodName} {cc : ByteArray} {nL : Nat} {ret : Option FieldType} {N mc ms : Nat} {av : List Value} {w : cd_Wd} {Q : cd_Out → cd_Wd → Prop}
    (hc : Cond.code y cc nL ret ∈ lw_tbl ∧ cd_gw (Cond.code y cc nL ret) = true) (h1 : ∀ v ∈ av, v.category = 1) (hn : av.length ≤ nL)
    (h : ∀ C : cd_Cx, cd_Ok G y cc nL ret [] (cd_rm N mc ms) C → cd_Go G l C (cd_MQ G (cx_s C) (cx_b C) mc ms Q) 0 0 w 0 (av.map some ++ List.replicate (nL - av.length) none) []) : cd_Ct G l y N mc ms av w Q := by
  intro p e s m below meth c T hx hnm hT hsT hH X
  obtain ⟨meth', c', e1, e2, e3, e4, e5, e6, e7, -⟩ := Cond.code_spec hnm (hT.1 _ hc.1 hc.2 #[])
  cases Option.some.inj (e1.symm.trans X.method)
  cases Option.some.inj (e2.symm.trans X.code)
  have hlo := cd_Lo.entry (n := nL) h1 hn
  have hO : cd_Ok G y cc nL ret [] (cd_rm N mc ms) (p, e, cd_rm N mc ms, s, m, av.toArray, below, meth, c) :=
    ⟨hx, e3, e4, findClass_of_methodNamed hnm, e5, e6, (name_of_methodNamed hnm X.method).1, hT, by rw [Array.isEmpty_iff.mp e7]; rfl, rfl, by rw [hsT]; exact hH.h0⟩
  have hw := h _ hO T.heap [] _ hH (fun x hx => by cases hx) hlo
  rw [e4, lg_entry_eq]
  exact hw T rfl X
theorem cd_ofWX {G : cd_Gl} {l : Launch} {y : MethodName} {cc : ByteArray} {nL : Nat} {ret : Option FieldType} {ex : List (Nat × Nat × Nat × Nat)} {N mc ms : Nat} {av : List Value} {w : cd_Wd} {Q : cd_Out → cd_Wd → Prop}
    (hc : Cond.codeWith y cc nL ret ex ∈ lw_tbl ∧ cd_gw (Cond.codeWith y cc nL ret ex) = true) (h1 : ∀ v ∈ av, v.category = 1) (hn : av.length ≤ nL)
    (h : ∀ C : cd_Cx, cd_Ok G y cc nL ret ex (cd_rm N mc ms) C → cd_Go G l C (cd_MQ G (cx_s C) (cx_b C) mc ms Q) 0 0 w 0 (av.map some ++ List.replicate (nL - av.length) none) []) : cd_Ct G l y N mc ms av w Q := by
  intro p e s m below meth c T hx hnm hT hsT hH X
  obtain ⟨m', meth', c', e0, e1, e2, e3, e4, e7, e5, e6, -⟩ := Cond.codeWith_spec (hT.1 _ hc.1 hc.2 #[])
  cases Option.some.inj (e0.symm.trans hnm)
  cases Option.some.inj (e1.symm.trans X.method)
  cases Option.some.inj (e2.symm.trans X.code)
  have hlo := cd_Lo.entry (n := nL) h1 hn
  have hO : cd_Ok G y cc nL ret ex (cd_rm N mc ms) (p, e, cd_rm N mc ms, s, m, av.toArray, below, meth, c) :=
    ⟨hx, e3, e4, findClass_of_methodNamed hnm, e5, e6, (name_of_methodNamed hnm X.method).1, hT, e7, rfl, by rw [hsT]; exact hH.h0⟩
  have hw := h _ hO T.heap [] _ hH (fun x hx => by cases hx) hlo
  rw [e4, lg_entry_eq]
  exact hw T rfl X
theorem cd_Ct.mono {G : cd_Gl} {l : Launch} {y : MethodName} {N mc ms : Nat} {av : List Value} {w : cd_Wd} {Q Q' : cd_Out → cd_Wd → Prop} (h : cd_Ct G l y N mc ms av w Q) (hq : ∀ o w', Q o w' → Q' o w') : cd_Ct G l y N mc ms av w Q' := by
  intro p e s m below meth c T hx hnm hT hsT hH X
  obtain ⟨t, st, o, L, a1, a2, a3, a4, a5, a6⟩ := h p e s m below meth c T hx hnm hT hsT hH X
  refine ⟨t, st, o, L, a1, a2, a3, a4, a5, ?_⟩
  cases o with
  | returned v =>
    obtain ⟨w', b1, b2⟩ := a6
    exact ⟨w', b1, hq _ _ b2⟩
  | threw x =>
    obtain ⟨w', E, ce, b1, b2, b3, b4, b5, b6⟩ := a6
    exact ⟨w', E, ce, b1, b2, b3, b4, b5, hq _ _ b6⟩
section Calls9
variable {p : Program} {l : Launch} {e : Env} {R : Room} {s : State} {m : MethodId} {args : Array Value} {below : List Frame} {meth : Method} {c : Code} {T : State} {locs : List Loc} {cells slots : Nat}
/-- what a method's code word says of the method, whichever of the two it is -/
def cd_Cd (y : MethodName) (nL : Nat) : Prop := (∃ (cc : ByteArray) (ret : Option FieldType), Cond.code y cc nL ret ∈ lw_tbl ∧ cd_gw (Cond.code y cc nL ret) = true) ∨ ∃ (cc : ByteArray) (ret : Option FieldType) (ex : List (Nat × Nat × Nat × Nat)), Cond.codeWith y cc nL ret ex ∈ lw_tbl ∧ cd_gw (Cond.codeWith y cc nL ret ex) = true
theorem cd_Cd.of {G : cd_Gl} {y : MethodName} {nL : Nat} (h : cd_Cd y nL) {s : State} (hT : cd_Tb G s) : ∃ m meth c, s.methodNamed? y = some m ∧ s.vm.method? m = some meth ∧ meth.code = some c ∧ c.maxLocals = nL ∧ meth.locks = false ∧ parseMethodDescriptor y.desc = some meth.sig := by
  rcases h with ⟨cc, ret, hc⟩ | ⟨cc, ret, ex, hc⟩
  · have hw := hT.1 _ hc.1 hc.2 #[]
    obtain ⟨m, hm⟩ := Cond.code_named hw
    obtain ⟨meth, c, e1, e2, e3, e4, e5, e6, e7, e8⟩ := Cond.code_spec hm hw
    exact ⟨m, meth, c, hm, e1, e2, e4, e6, e8⟩
  · obtain ⟨m, meth, c, e0, e1, e2, e3, e4, e7, e5, e6, e8⟩ := Cond.codeWith_spec (hT.1 _ hc.1 hc.2 #[])
    exact ⟨m, meth, c, e0, e1, e2, e4, e6, e8⟩
/-- the call itself, behind the step that links it -/
theorem cd_callX {G : cd_Gl} (X : Stand p l e R s m args below meth c T locs cells slots) (hx : p.tables.exec = Jvm.exec) (hT : cd_Tb G s) {g : JFrame} (hg : g.method = m) (hsize : g.locals.size = c.maxLocals) {ig : Instr} {len : Nat} (hdg : decode c.code g.pc = .ok (ig, len))
    {y : MethodName} {nL N mc ms : Nat} {av : List Value} {w : cd_Wd} {Q : cd_Out → cd_Wd → Prop} (hC : cd_Ct G l y N mc ms av w Q) (hcd : cd_Cd y nL) (hpl : plainName y.cls = true) {mk : MethodId} (hn : s.methodNamed? y = some mk) (hH : cd_Hp G w T.heap)
    (hfr : N + 1 ≤ R.frames) (hlo : 2 * g.monitorRoom + (g.stack.map fun v => v.category).sum + (nL + 11) + 64 * N ≤ R.locals) (hce : cells + mc ≤ R.cells) (hsl : slots + ms ≤ R.slots) :
    ∃ (o : Outcome) (T' : State) (L : List Loc), Stand p l e R s m args below meth c T' (locs ++ L) (cells + mc) (slots + ms) ∧ (∀ q ∈ L, G.2.2.size ≤ q.base) ∧ cd_OQ G s Q o T' ∧
      ∀ acts, Steps p.tables e below (doInvoke e (T.setTop g) acts mk av.toArray).1 (match o with
        | .returned v => T'.setTop { g with pc := g.pc + len, stack := v.toList ++ g.stack }
        | .threw x => (T'.setTop g).pushFrame (.throwing x)) := by
  obtain ⟨mk0, methk, ck, e0, e1, e2, e4, e6, e8⟩ := hcd.of hT
  cases Option.some.inj (e0.symm.trans hn)
  have hmk : T.vm.method? mk = some methk := by rw [X.warmed.alike.method?]; exact e1
  have hnT : T.methodNamed? y = some mk := X.named hn
  have hpk : T.plainMethod mk := State.plainMethod.of_named (s := T) (plainFor_of_name hpl) hnT hmk
  obtain ⟨Y, hin⟩ := X.into hg hsize hdg av.toArray (R' := cd_rm N mc ms) hmk e2 e6 hpk hfr (by rw [e4]; exact hlo) hce hsl
  have hWc : s.WarmedH (T.calling g mk av.toArray).vm := X.warmed
  obtain ⟨t, st, o, L, a1, a2, a3, a4, a5, a6⟩ := hC p e (T.calling g mk av.toArray) mk (.java g :: below) methk ck ((T.setTop g).pushFrame (.java (entryFrame mk av.toArray ck.maxLocals))) hx hnT (hT.warm hWc) rfl (by exact hH) Y
  have hst : ∀ acts, Steps p.tables e below (doInvoke e (T.setTop g) acts mk av.toArray).1 t := fun acts => by rw [hin acts]; exact Steps.weaken (mid := [.java g]) st
  cases o with
  | returned v =>
    obtain ⟨w', b1, b2⟩ := a6
    obtain ⟨T', X', -, -, ht⟩ := X.outOf hg hdg a2 a3 a4
    refine ⟨.returned v, T', L, X', a5, ⟨w', ?_, b2⟩, fun acts => ?_⟩
    · rw [ht] at b1; exact b1
    · have h9 := hst acts
      rw [ht] at h9
      exact h9
  | threw x =>
    obtain ⟨w', E, ce, b1, b2, b3, b4, b5, b6⟩ := a6
    obtain ⟨T', X', -, -, ht⟩ := X.outOfThrown hg a2 a3 a4
    refine ⟨.threw x, T', L, X', a5, ⟨w', E, ce, ?_, ?_, b3, b4, ?_, b6⟩, fun acts => ?_⟩
    · rw [ht] at b1; exact b1
    · rw [ht] at b2; exact b2
    · rw [← hWc.alike.findClass]; exact b5
    · have h9 := hst acts
      rw [ht] at h9
      exact h9
end Calls9
section Rows2
variable {G : cd_Gl} {l : Launch} {C : cd_Cx} {Q : State → Prop} {k n : Nat} {w : cd_Wd} {pc : Nat} {lv : List (Option Value)} {rest : List Value} {y : MethodName} {cc : ByteArray} {nL : Nat} {ret : Option FieldType} {ex : List (Nat × Nat × Nat × Nat)} {R : Room}
/-- the machine, with an exception of the class cd_ex E under way in this frame at pc, comes to Q -/
def cd_Gx (G : cd_Gl) (l : Launch) (C : cd_Cx) (Q : State → Prop) (k n : Nat) (w : cd_Wd) (pc : Nat) (lv : List (Option Value)) (E : Nat) : Prop :=
  ∀ (T : State) (locs : List Loc) (ls : Array Slot) (st : List Value) (x : Nat) (ce : Cell), cd_Hp G w T.heap → (∀ z ∈ locs, G.2.2.size ≤ z.base) → cd_Lo ls lv → T.heap[x]? = some ce → ce.vm = .none → G.2.2.size ≤ x → (cx_s C).vm.findClass (cd_ex E) = some ce.cls →
    Stand (cx_p C) l (cx_e C) (cx_R C) (cx_s C) (cx_m C) (cx_a C) (cx_b C) (cx_h C) (cx_c C) T locs k n → ∃ t, Steps (cx_p C).tables (cx_e C) (cx_b C) ((T.setTop (F0 (cx_m C) pc ls st)).pushFrame (.throwing x)) t ∧ Q t
/-- a call, its linking step given -/
theorem cd_call (O : cd_Ok G y cc nL ret ex R C) {y' : MethodName} {nL' N mc ms : Nat} {av st : List Value} {ig : Instr} (hcd : cd_Cd y' nL') (hpl : plainName y'.cls = true) (hd : decode cc pc = .ok (ig, 3))
    (hfr : N + 1 ≤ R.frames) (hlo : (rest.map fun v => v.category).sum + (nL' + 11) + 64 * N ≤ R.locals) (hce : k + mc ≤ R.cells) (hsl : n + ms ≤ R.slots)
    (hlink : ∀ (T : State) (locs : List Loc) (ls : Array Slot), cd_Hp G w T.heap → ls.size = (cx_c C).maxLocals → Stand (cx_p C) l (cx_e C) (cx_R C) (cx_s C) (cx_m C) (cx_a C) (cx_b C) (cx_h C) (cx_c C) T locs k n → ∃ (mk : MethodId) (vm' : Vm), (cx_s C).methodNamed? y' = some mk ∧ Stand (cx_p C) l (cx_e C) (cx_R C) (cx_s C) (cx_m C) (cx_a C) (cx_b C) (cx_h C) (cx_c C) (T.setVm vm') locs k n ∧
      ∀ target, (∀ acts, Steps (cx_p C).tables (cx_e C) (cx_b C) (doInvoke (cx_e C) ((T.setVm vm').setTop (F0 (cx_m C) pc ls rest)) acts mk av.toArray).1 target) → Steps (cx_p C).tables (cx_e C) (cx_b C) (T.setTop (F0 (cx_m C) pc ls st)) target)
    (hlv : lv.length = nL)
    (hC : cd_Ct G l y' N mc ms av w (fun o w' => match o with
      | .inl v => cd_Go G l C Q (k + mc) (n + ms) w' (pc + 3) lv (v.toList ++ rest)
      | .inr E => cd_Gx G l C Q (k + mc) (n + ms) w' pc lv E)) : cd_Go G l C Q k n w pc lv st := by
  intro H locs ls a1 b1 c1 T hT X
  have hsz : ls.size = (cx_c C).maxLocals := by rw [c1.1, hlv, O.2.2.1]
  obtain ⟨mk, vm', h1, X1, hst⟩ := hlink T locs ls (by rw [hT]; exact a1) hsz X
  have hR := O.2.2.2.2.2.2.2.2.2.1
  obtain ⟨o, T', L, X2, hL, hq, hstep⟩ := cd_callX (g := F0 (cx_m C) pc ls rest) X1 O.1 O.2.2.2.2.2.2.2.1 rfl hsz (by rw [O.2.1]; exact hd) hC hcd hpl h1 (by show cd_Hp G w T.heap; rw [hT]; exact a1) (by rw [hR]; exact hfr) (by rw [hR]; show 2 * 0 + (rest.map fun v => v.category).sum + (nL' + 11) + 64 * N ≤ R.locals; omega) (by rw [hR]; exact hce) (by rw [hR]; exact hsl)
  cases o with
  | returned v =>
    obtain ⟨w', q1, q2⟩ := hq
    obtain ⟨t, s1, s2⟩ := q2 T'.heap (locs ++ L) ls q1 (t_lL b1 hL) c1 T' rfl X2
    exact ⟨t, hst _ fun acts => (hstep acts).trans s1, s2⟩
  | threw x =>
    obtain ⟨w', E, ce, q1, q2, q3, q4, q5, q6⟩ := hq
    obtain ⟨t, s1, s2⟩ := q6 T' (locs ++ L) ls rest x ce q1 (t_lL b1 hL) c1 q2 q3 q4 q5 X2
    exact ⟨t, hst _ fun acts => (hstep acts).trans s1, s2⟩
theorem g_calls (O : cd_Ok G y cc nL ret ex R C) {y' : MethodName} {nL' N mc ms idx : Nat} {av : List Value} (hcd : cd_Cd y' nL') (hpl : plainName y'.cls = true ∧ y'.cls ≠ "java/lang/invoke/MethodHandle" ∧ y'.cls ≠ "java/lang/invoke/VarHandle")
    (hl : Cond.methodLink y.cls idx y' ∈ lw_tbl ∧ cd_gw (Cond.methodLink y.cls idx y') = true) (hs : Cond.static y' ∈ lw_tbl ∧ cd_gw (Cond.static y') = true) (hini : Cond.initialized y'.cls ∈ lw_tbl ∧ cd_gw (Cond.initialized y'.cls) = true)
    (hlen : (parseMethodDescriptor y'.desc).map (fun d => d.parameters.length) = some av.length) (hd : decode cc pc = .ok (.invokestatic idx, 3)) (hlv : lv.length = nL)
    (hfr : N + 1 ≤ R.frames) (hlo : (rest.map fun v => v.category).sum + (nL' + 11) + 64 * N ≤ R.locals) (hce : k + mc ≤ R.cells) (hsl : n + ms ≤ R.slots)
    (hC : cd_Ct G l y' N mc ms av w (fun o w' => match o with
      | .inl v => cd_Go G l C Q (k + mc) (n + ms) w' (pc + 3) lv (v.toList ++ rest)
      | .inr E => cd_Gx G l C Q (k + mc) (n + ms) w' pc lv E)) : cd_Go G l C Q k n w pc lv (av.reverse ++ rest) := by
  refine cd_call O hcd hpl.1 hd hfr hlo hce hsl (fun T locs ls hH hsz X => ?_) hlv hC
  obtain ⟨mk, methk, ck, e0, e1, e2, e4, e6, e8⟩ := hcd.of O.2.2.2.2.2.2.2.1
  obtain ⟨kP, hkP, -⟩ := className_of_methodNamed e0
  have hlen' : av.length = methk.sig.parameters.length := by rw [e8] at hlen; exact (Option.some.inj hlen).symm
  obtain ⟨vm', X1, st⟩ := X.invokestatic O.1 O.2.2.2.1 (cd_word O hl) e0 e1 (Cond.static_spec e0 e1 (cd_word O hs)) hkP (Cond.initialized_spec (findClass_of_methodNamed e0) hkP (cd_word O hini)) hpl.2 (g := F0 (cx_m C) pc ls (av.reverse ++ rest)) rfl (argsL := av) (rest := rest) hlen' rfl (by rw [O.2.1]; exact hd)
  exact ⟨mk, vm', e0, X1, st⟩
theorem g_callv (O : cd_Ok G y cc nL ret ex R C) {y' : MethodName} {nL' N mc ms idx ci a : Nat} {q : vw_C} {av : List Value} (hcd : cd_Cd y' nL') (hpl : plainName y'.cls = true ∧ y'.cls ≠ "java/lang/invoke/MethodHandle" ∧ y'.cls ≠ "java/lang/invoke/VarHandle") (hq : cd_cls[ci]? = some q) (ha : cd_kd w a = 2 * ci + 2)
    (hl : Cond.methodLink y.cls idx y' ∈ lw_tbl ∧ cd_gw (Cond.methodLink y.cls idx y') = true) (hs : Cond.instanceMethod y' ∈ lw_tbl ∧ cd_gw (Cond.instanceMethod y') = true) (hsel : Cond.selects q.1 y' y' ∈ lw_tbl ∧ cd_gw (Cond.selects q.1 y' y') = true)
    (hlen : (parseMethodDescriptor y'.desc).map (fun d => d.parameters.length) = some av.length) (hd : decode cc pc = .ok (.invokevirtual idx, 3)) (hlv : lv.length = nL)
    (hfr : N + 1 ≤ R.frames) (hlo : (rest.map fun v => v.category).sum + (nL' + 11) + 64 * N ≤ R.locals) (hce : k + mc ≤ R.cells) (hsl : n + ms ≤ R.slots)
    (hC : cd_Ct G l y' N mc ms (.ref a :: av) w (fun o w' => match o with
      | .inl v => cd_Go G l C Q (k + mc) (n + ms) w' (pc + 3) lv (v.toList ++ rest)
      | .inr E => cd_Gx G l C Q (k + mc) (n + ms) w' pc lv E)) : cd_Go G l C Q k n w pc lv (av.reverse ++ .ref a :: rest) := by
  refine cd_call O hcd hpl.1 hd hfr hlo hce hsl (fun T locs ls hH hsz X => ?_) hlv hC
  obtain ⟨mk, methk, ck, e0, e1, e2, e4, e6, e8⟩ := hcd.of O.2.2.2.2.2.2.2.1
  have hlen' : av.length = methk.sig.parameters.length := by rw [e8] at hlen; exact (Option.some.inj hlen).symm
  obtain ⟨mk2, methM, hnamed, hmethM, hstM, habM⟩ := Cond.instanceMethod_spec (cd_word O hs)
  cases Option.some.inj (e0.symm.trans hnamed)
  cases Option.some.inj (e1.symm.trans hmethM)
  obtain ⟨cellB, g1, g2, g3, -⟩ := hH.obj ha hq
  obtain ⟨c2, r2, m2, q1, q2, q3, q4, kP, hkP, hkPi⟩ := Cond.selects_spec (cd_word O hsel)
  have hcls := ((cd_K O).1 ci _ hq).2.1
  cases Option.some.inj (hcls.symm.trans q1)
  cases (State.methodFound?_of_named hnamed hpl.2).symm.trans q2
  cases hnamed.symm.trans q3
  have hselP : selectMethod (cx_e C).platform (cx_s C).vm cellB.cls mk = .method mk := by rw [Launch.admits_selectMethod X.admits, g2]; exact q4
  obtain ⟨vm₁, X₁, hstep₁⟩ := X.invokevirtual O.1 O.2.2.2.1 (cd_word O hl) hnamed hmethM hstM hkP hkPi hpl.2 (a := a) (cell := cellB) g1
    (fun z h => by rw [g3] at h; cases h) hselP hmethM habM hkP hkPi (g := F0 (cx_m C) pc ls (av.reverse ++ .ref a :: rest)) rfl (argsL := av) (rest := rest) hlen' rfl (by rw [O.2.1]; exact hd)
  exact ⟨mk, vm₁, hnamed, X₁, hstep₁⟩
theorem g_calli (O : cd_Ok G y cc nL ret ex R C) {y' : MethodName} {cc' : ByteArray} {nL' N mc ms idx a : Nat} {av : List Value} (hcd : Cond.code y' cc' nL' none ∈ lw_tbl ∧ cd_gw (Cond.code y' cc' nL' none) = true) (hpl : plainName y'.cls = true ∧ y'.cls ≠ "java/lang/invoke/MethodHandle" ∧ y'.cls ≠ "java/lang/invoke/VarHandle") (hnm : y'.name = "<init>")
    (hl : Cond.methodLink y.cls idx y' ∈ lw_tbl ∧ cd_gw (Cond.methodLink y.cls idx y') = true) (hs : Cond.instanceMethod y' ∈ lw_tbl ∧ cd_gw (Cond.instanceMethod y') = true)
    (hlen : (parseMethodDescriptor y'.desc).map (fun d => d.parameters.length) = some av.length) (hd : decode cc pc = .ok (.invokespecial idx, 3)) (hlv : lv.length = nL)
    (hfr : N + 1 ≤ R.frames) (hlo : (rest.map fun v => v.category).sum + (nL' + 11) + 64 * N ≤ R.locals) (hce : k + mc ≤ R.cells) (hsl : n + ms ≤ R.slots)
    (hC : cd_Ct G l y' N mc ms (.ref a :: av) w (fun o w' => match o with
      | .inl v => cd_Go G l C Q (k + mc) (n + ms) w' (pc + 3) lv (v.toList ++ rest)
      | .inr E => cd_Gx G l C Q (k + mc) (n + ms) w' pc lv E)) : cd_Go G l C Q k n w pc lv (av.reverse ++ .ref a :: rest) := by
  refine cd_call O (Or.inl ⟨_, _, hcd⟩) hpl.1 hd hfr hlo hce hsl (fun T locs ls hH hsz X => ?_) hlv hC
  have hpl9 : (cx_e C).platform.magicAccessors = ({} : Platform).magicAccessors := by rw [X.admits.platform]
  obtain ⟨mk, methM, cM, kP, vm₁, hnamed, hmethM, hcodeM, -, hlocalsM, -, hkP, -, hW₁, hstep₁⟩ := Steps.initColdArgs (e := cx_e C) X.here O.1 X.warmed hpl9 O.2.2.2.1 hnm hpl.2 (cd_word O hl) (cd_word O hs) (cd_word O hcd) (f := F0 (cx_m C) pc ls (av.reverse ++ .ref a :: rest)) rfl (fun sig hsig => by rw [hsig] at hlen; exact (Option.some.inj hlen).symm) rfl (by rw [O.2.1]; exact hd)
  exact ⟨mk, vm₁, hnamed, X.noted hW₁, hstep₁⟩
/-- Object's constructor -/
theorem g_obj (O : cd_Ok G y cc nL ret ex R C) {idx a : Nat} (hl : Cond.methodLink y.cls idx Lib.objectInit ∈ lw_tbl ∧ cd_gw (Cond.methodLink y.cls idx Lib.objectInit) = true) (hs : Cond.instanceMethod Lib.objectInit ∈ lw_tbl ∧ cd_gw (Cond.instanceMethod Lib.objectInit) = true) (hcd : Cond.code Lib.objectInit ⟨#[0xb1]⟩ 1 none ∈ lw_tbl ∧ cd_gw (Cond.code Lib.objectInit ⟨#[0xb1]⟩ 1 none) = true)
    (hd : decode cc pc = .ok (.invokespecial idx, 3)) (hlv : lv.length = nL) (hfr : 1 ≤ R.frames) (hlo : (rest.map fun v => v.category).sum + 12 ≤ R.locals)
    (h : cd_Go G l C Q k n w (pc + 3) lv rest) : cd_Go G l C Q k n w pc lv (.ref a :: rest) := by
  intro H locs ls a1 b1 c1
  have hR := O.2.2.2.2.2.2.2.2.2.1
  have hsz : ls.size = (cx_c C).maxLocals := by rw [c1.1, hlv, O.2.2.1]
  exact W.objInit O.1 O.2.1 O.2.2.2.1 (cd_word O hl) (cd_word O hs) (cd_word O hcd) rfl hsz rfl hd (by rw [hR]; exact hfr) (by rw [hR]; show 2 * 0 + _ + 12 ≤ _; omega) (h H locs ls a1 b1 c1)
/-! ### the ends -/
theorem cd_end {mc ms : Nat} {Q : cd_Out → cd_Wd → Prop} {T : State} {locs : List Loc} {fs : List Frame} {v : Option Value} (hk : k ≤ mc) (hn : n ≤ ms) (hH : cd_Hp G w T.heap) (hl : ∀ x ∈ locs, G.2.2.size ≤ x.base) (hq : Q (.inl v) w)
    (hrun : (T.setFrames fs).status = .running) (hended : Ended (T.setFrames fs) (cx_b C) (.returned v)) (hW : (cx_s C).WarmedH (T.setFrames fs).vm) (hframe : (cx_s C).sameButNew ({ T.setFrames fs with vm := (cx_s C).vm } : State) locs k n) : cd_MQ G (cx_s C) (cx_b C) mc ms Q (T.setFrames fs) :=
  ⟨.returned v, locs, hrun, hended, hW, hframe.weaken (fun _ h _ => h) hk hn, hl, w, hH, hq⟩
theorem g_ret (O : cd_Ok G y cc nL none ex R C) {mc ms : Nat} {Q : cd_Out → cd_Wd → Prop} (hd : decode cc pc = .ok (.return_, 1)) (hk : k ≤ mc) (hn : n ≤ ms) (hq : Q (.inl none) w) : cd_Go G l C (cd_MQ G (cx_s C) (cx_b C) mc ms Q) k n w pc lv [] := by
  intro H locs ls a1 b1 c1 T hT X
  have hlocks := O.2.2.2.2.2.1
  have hr := O.2.2.2.2.1
  obtain ⟨fs, hret, hrun, hended, hW, hframe⟩ := X.leave (v := none) (fun _ => rfl)
  have hmeth' : T.vm.method? (cx_m C) = some (cx_h C) := X.method'
  refine ⟨T.setFrames fs, ?_, cd_end hk hn (by rw [hT]; exact a1) b1 hq hrun hended hW hframe⟩
  have hexec := O.1
  have hb := O.2.1
  jvm_step X.here [X.here.top, hexec, hb, hd, hmeth', hr]
  (try refine ⟨rfl, ?_⟩); (try refine ⟨rfl, ?_⟩)
  first | (intro acts; rw [hret _ acts rfl rfl rfl]) | rw [hret _ _ rfl rfl rfl]
  exact Steps.refl _
theorem g_iret (O : cd_Ok G y cc nL (some .int) ex R C) {mc ms : Nat} {v : Int32} {Q : cd_Out → cd_Wd → Prop} (hd : decode cc pc = .ok (.ireturn, 1)) (hk : k ≤ mc) (hn : n ≤ ms) (hq : Q (.inl (some (.int v))) w) : cd_Go G l C (cd_MQ G (cx_s C) (cx_b C) mc ms Q) k n w pc lv [.int v] := by
  intro H locs ls a1 b1 c1 T hT X
  have hlocks := O.2.2.2.2.2.1
  have hr := O.2.2.2.2.1
  obtain ⟨fs, hret, hrun, hended, hW, hframe⟩ := X.leave (v := some (.int v)) (fun h => by rw [hr] at h; cases h)
  have hmeth' : T.vm.method? (cx_m C) = some (cx_h C) := X.method'
  refine ⟨T.setFrames fs, ?_, cd_end hk hn (by rw [hT]; exact a1) b1 hq hrun hended hW hframe⟩
  have hexec := O.1
  have hb := O.2.1
  jvm_step X.here [X.here.top, hexec, hb, hd, hmeth', hr, narrow]
  (try refine ⟨rfl, ?_⟩); (try refine ⟨rfl, ?_⟩)
  first | (intro acts; rw [hret _ acts rfl rfl rfl]) | rw [hret _ _ rfl rfl rfl]
  exact Steps.refl _
theorem g_zret (O : cd_Ok G y cc nL (some .boolean) ex R C) {mc ms : Nat} {v : Int32} {Q : cd_Out → cd_Wd → Prop} (hd : decode cc pc = .ok (.ireturn, 1)) (hv : v = 0 ∨ v = 1) (hk : k ≤ mc) (hn : n ≤ ms) (hq : Q (.inl (some (.int v))) w) : cd_Go G l C (cd_MQ G (cx_s C) (cx_b C) mc ms Q) k n w pc lv [.int v] := by
  intro H locs ls a1 b1 c1 T hT X
  have hlocks := O.2.2.2.2.2.1
  have hr := O.2.2.2.2.1
  obtain ⟨fs, hret, hrun, hended, hW, hframe⟩ := X.leave (v := some (.int v)) (fun h => by rw [hr] at h; cases h)
  have hmeth' : T.vm.method? (cx_m C) = some (cx_h C) := X.method'
  refine ⟨T.setFrames fs, ?_, cd_end hk hn (by rw [hT]; exact a1) b1 hq hrun hended hW hframe⟩
  have hexec := O.1
  have hb := O.2.1
  have hnv : narrow .boolean (.int v) = .int v := by rcases hv with rfl | rfl <;> rfl
  jvm_step X.here [X.here.top, hexec, hb, hd, hmeth', hr, hnv]
  (try refine ⟨rfl, ?_⟩); (try refine ⟨rfl, ?_⟩)
  first | (intro acts; rw [hret _ acts rfl rfl rfl]) | rw [hret _ _ rfl rfl rfl]
  exact Steps.refl _
theorem g_aretN {D : String} (O : cd_Ok G y cc nL (some (.object D)) ex R C) {mc ms : Nat} {Q : cd_Out → cd_Wd → Prop} (hd : decode cc pc = .ok (.areturn, 1)) (hk : k ≤ mc) (hn : n ≤ ms) (hq : Q (.inl (some .null)) w) : cd_Go G l C (cd_MQ G (cx_s C) (cx_b C) mc ms Q) k n w pc lv [.null] := by
  intro H locs ls a1 b1 c1 T hT X
  have hlocks := O.2.2.2.2.2.1
  have hr := O.2.2.2.2.1
  obtain ⟨fs, hret, hrun, hended, hW, hframe⟩ := X.leave (v := some .null) (fun h => by rw [hr] at h; cases h)
  have hmeth' : T.vm.method? (cx_m C) = some (cx_h C) := X.method'
  refine ⟨T.setFrames fs, ?_, cd_end hk hn (by rw [hT]; exact a1) b1 hq hrun hended hW hframe⟩
  have hexec := O.1
  have hb := O.2.1
  jvm_step X.here [X.here.top, hexec, hb, hd, hmeth', hr]
  (try refine ⟨rfl, ?_⟩); (try refine ⟨rfl, ?_⟩)
  first | (intro acts; rw [hret _ acts rfl rfl rfl]) | rw [hret _ _ rfl rfl rfl]
  exact Steps.refl _
theorem g_aretS {D : String} (O : cd_Ok G y cc nL (some (.object D)) ex R C) {mc ms a : Nat} {Q : cd_Out → cd_Wd → Prop} (hd : decode cc pc = .ok (.areturn, 1)) (hk : k ≤ mc) (hn : n ≤ ms) (hq : Q (.inl (some (.ref a))) w) : cd_Go G l C (cd_MQ G (cx_s C) (cx_b C) mc ms Q) k n w pc lv [.ref a] := by
  intro H locs ls a1 b1 c1 T hT X
  have hlocks := O.2.2.2.2.2.1
  have hr := O.2.2.2.2.1
  obtain ⟨fs, hret, hrun, hended, hW, hframe⟩ := X.leave (v := some (.ref a)) (fun h => by rw [hr] at h; cases h)
  have hmeth' : T.vm.method? (cx_m C) = some (cx_h C) := X.method'
  refine ⟨T.setFrames fs, ?_, cd_end hk hn (by rw [hT]; exact a1) b1 hq hrun hended hW hframe⟩
  have hexec := O.1
  have hb := O.2.1
  jvm_step X.here [X.here.top, hexec, hb, hd, hmeth', hr]
  (try refine ⟨rfl, ?_⟩); (try refine ⟨rfl, ?_⟩)
  first | (intro acts; rw [hret _ acts rfl rfl rfl]) | rw [hret _ _ rfl rfl rfl]
  exact Steps.refl _
/-- an exception leaves a method that has no handlers -/
theorem gx_out (O : cd_Ok G y cc nL ret [] R C) {mc ms E : Nat} {Q : cd_Out → cd_Wd → Prop} (hk : k ≤ mc) (hn : n ≤ ms) (hq : Q (.inr E) w) : cd_Gx G l C (cd_MQ G (cx_s C) (cx_b C) mc ms Q) k n w pc lv E := by
  intro T locs ls st x ce hH hl hls h1 h2 h3 h4 X
  have hlocks := O.2.2.2.2.2.1
  have hex : (cx_c C).exceptionTable.toList = [] := List.map_eq_nil_iff.mp O.2.2.2.2.2.2.2.2.1
  obtain ⟨st1, hrun, hend, hW, hsm⟩ := X.leaveThrown x (g := F0 (cx_m C) pc ls st) rfl rfl rfl (fun z hz => by rw [hex] at hz; cases hz)
  exact ⟨_, st1, .threw x, locs, hrun, hend, hW, hsm.weaken (fun _ h _ => h) hk hn, hl, w, E, ce, hH, h1, h2, h3, h4, hq⟩
end Rows2
end
section
/-! ===== A THROW: new E; dup; ldc; E(String); athrow, in a method without handlers ===== -/
/-- the four words of a throw that speak of the heap -/
def cd_h4 (c : Cond) : Bool := decide (c = .isRef (.static Bundle.tN "UNASSIGNED_STACK" Bundle.steD)) || decide (c = .isRef (.static Bundle.tN "SUPPRESSED_SENTINEL" Bundle.listD)) || decide (c = .laysStatic Bundle.tN "UNASSIGNED_STACK" Bundle.steD) || decide (c = .laysStatic Bundle.tN "SUPPRESSED_SENTINEL" Bundle.listD)
/-- the constructors E(String): they hand on to RuntimeException(String), by the entry 7, or 13 -/
def cd_ix : Nat → Nat
  | 3 => 13
  | _ => 7
def cd_bs : Nat → ByteArray
  | 3 => ⟨#[0x2a, 0x2b, 0xb7, 0x00, 0x0d, 0xb1]⟩
  | _ => ⟨#[0x2a, 0x2b, 0xb7, 0x00, 0x07, 0xb1]⟩
theorem cd_bs_d (E : Nat) : decode (cd_bs E) 0 = .ok (.aload_n 0, 1) ∧ decode (cd_bs E) 1 = .ok (.aload_n 1, 1) ∧ decode (cd_bs E) 2 = .ok (.invokespecial (cd_ix E), 3) ∧ decode (cd_bs E) 5 = .ok (.return_, 1) := by
  unfold cd_bs cd_ix
  split <;> decide +kernel
/-- the words of a throw of E but the link of its constructor -/
def cd_at (E : Nat) : List Cond := Bundle.throwableAtoms ++ Bundle.throwableSAtoms ++ Bundle.passSAtoms (cd_ex E) "java/lang/RuntimeException" (cd_ix E) (cd_bs E) ++ Bundle.chainSAtoms "java/lang/RuntimeException" ["java/lang/Exception"] ++
  [.instantiable (cd_ex E) 6, .selects (cd_ex E) Bundle.tFill0 Bundle.tFill0, .selects (cd_ex E) Bundle.tFill Bundle.tFill,
   .lays (cd_ex E) Bundle.tN "cause" "Ljava/lang/Throwable;", .lays (cd_ex E) Bundle.tN "stackTrace" Bundle.steD, .lays (cd_ex E) Bundle.tN "suppressedExceptions" Bundle.listD, .lays (cd_ex E) Bundle.tN "detailMessage" "Ljava/lang/String;",
   .isRef (.static Bundle.tN "UNASSIGNED_STACK" Bundle.steD), .isRef (.static Bundle.tN "SUPPRESSED_SENTINEL" Bundle.listD),
   .fieldLink Bundle.tN 198 Bundle.tN "backtrace" "Ljava/lang/Object;", .lays Bundle.tN Bundle.tN "backtrace" "Ljava/lang/Object;", .lays (cd_ex E) Bundle.tN "backtrace" "Ljava/lang/Object;"]
section Cth

set_option maxHeartbeats 4000000 in
/-- a made exception of class E is built and thrown out of the method; what is used of the library: its bundle of Throwable, its chain of constructors, the leaving -/
theorem cd_cth {p : Program} {l : Launch} {e : Env} {R : Room} {s : State} {m₀ : MethodId} {args : Array Value} {below : List Frame} {meth : Method} {c : Code} {V : State} {locs : List Loc} {cells slots : Nat} (X : Stand p l e R s m₀ args below meth c V locs cells slots) (hexec : p.tables.exec = Jvm.exec) (htr : e.platform.stackTraces = false) {own : String} {E ic : Nat}
    (hown : s.vm.findClass own = some m₀.cls) (hfit : Bundle.fit (cd_ex E) = true) (hml : (Cond.methodLink own ic (Bundle.initS (cd_ex E))).before args s = true) (h : ∀ z ∈ cd_at E, z.before args s = true) (hlocs : locs = [])
    {a : Addr} {cX : ClassId} {kX : Class} (hfX : s.vm.findClass (cd_ex E) = some cX) (hkX : s.vm.classes[cX]? = some kX) (hcell : V.heap[a]? = some (freshCell cX kX)) (hnew : s.heap.size ≤ a) {msg : Value} (hmsg : msg.isRef = true)
    {g : JFrame} (hg : g.method = m₀) (hsize : g.locals.size = c.maxLocals) (hlk : g.locked = none) (hen : g.entered = []) {rest : List Value} (hst : g.stack = msg :: .ref a :: .ref a :: rest)
    (hd6 : decode c.code g.pc = .ok (.invokespecial ic, 3)) (hd9 : decode c.code (g.pc + 3) = .ok (.athrow, 1)) (hout : ∀ x ∈ c.exceptionTable.toList, covers x (g.pc + 3) = false)
    (hR1 : 5 < R.frames) (hR2 : 2 * g.monitorRoom + ((Value.ref a :: rest).map fun v => v.category).sum + 81 ≤ R.locals) (hlocks : meth.locks = false) :
    ∃ U : State, Steps p.tables e below (V.setTop g) U ∧ U.status = .running ∧ Ended U below (.threw a) ∧ s.WarmedH U.vm ∧ s.sameButNew ({ U with vm := s.vm } : State) locs cells slots ∧ ∃ ce, U.heap[a]? = some ce ∧ ce.vm = .none ∧ ce.cls = cX := by
  subst hlocs
  have hp := X.admits.platform
  have hpl : e.platform.magicAccessors = ({} : Platform).magicAccessors := by rw [hp]
  have w : ∀ z, z ∈ cd_at E → z.holds args s none s [] = true := fun z hz => h z hz
  obtain ⟨T, Z0, L, -, Y⟩ := ThrowableC.of_atoms (args := args) (by rw [hp] : e.platform.frameOwnsMonitors = true) (by rw [hp] : e.platform.finalization = false) hpl (fun z hz => h z (by simp [cd_at, hz]))
  obtain ⟨Z, M, LZ, LM, hnZ⟩ := Init0T.ofS_atoms (args := args) hpl L Y (fun z hz => h z (by simp [cd_at, hz]))
  obtain ⟨P2, Ps, hlen, L2, hL, hm2, hsup2, hpass⟩ := Bundle.chainS (args := args) hpl hnZ ["java/lang/Exception"] "java/lang/RuntimeException" (by decide) (by decide) (fun z hz => h z (by simp [cd_at, hz]))
  obtain ⟨b0, b1, b2, b5⟩ := cd_bs_d E
  obtain ⟨P1, L1, hm1, hs1⟩ := PassC.ofS_atoms (args := args) (s := s) hpl (X := cd_ex E) (Y := "java/lang/RuntimeException") (Bundle.fit_spec hfit).1 (by decide) b0 b1 b2 b5 (fun z hz => h z (by simp [cd_at, hz]))
  have hsup1 : P1.sup = P2.m := Option.some.inj (hs1.symm.trans hm2)
  cases Option.some.inj (hfX.symm.trans (findClass_of_methodNamed hm1))
  obtain ⟨c1, k1, hc1, hk, hord, -, -, -⟩ := Cond.instantiable_spec (w (.instantiable (cd_ex E) 6) (by simp [cd_at]))
  cases Option.some.inj (hc1.symm.trans hfX)
  cases Option.some.inj (hkX.symm.trans hk)
  have sel : ∀ (y : MethodName) (mm : MethodId), s.methodNamed? y = some mm → (y.cls ≠ "java/lang/invoke/MethodHandle" ∧ y.cls ≠ "java/lang/invoke/VarHandle") → (Cond.selects (cd_ex E) y y).holds args s none s [] = true → selectMethod e.platform s.vm P1.m.cls mm = .method mm := by
    intro y mm hy hne hsl
    obtain ⟨c2, r2, m2, q1, q2, q3, q4, -⟩ := Cond.selects_spec hsl
    cases Option.some.inj (q1.symm.trans hfX)
    cases Option.some.inj (q2.symm.trans (State.methodFound?_of_named hy hne))
    cases Option.some.inj (q3.symm.trans hy)
    rw [Launch.admits_selectMethod X.admits]; exact q4
  obtain ⟨cS, hcS, hiS⟩ := Y.statics
  obtain ⟨u0, hu0⟩ := Cond.staticRefV Y.unassigned L.unassignedStatic L.statics hcS hiS (w (.isRef (.static Bundle.tN "UNASSIGNED_STACK" Bundle.steD)) (by simp [cd_at]))
  obtain ⟨u1, hu1⟩ := Cond.staticRefV Y.sentinel L.sentinelStatic L.statics hcS hiS (w (.isRef (.static Bundle.tN "SUPPRESSED_SENTINEL" Bundle.listD)) (by simp [cd_at]))
  obtain ⟨cB, iB, fB, hkB, hgB, haB, hsB, -, hnB, htB, hfB⟩ := Cond.ownField (t := .object "java/lang/Object") Y.found L.cls (by decide +kernel) (w (.fieldLink Bundle.tN 198 Bundle.tN "backtrace" "Ljava/lang/Object;") (by simp [cd_at])) (w (.lays Bundle.tN Bundle.tN "backtrace" "Ljava/lang/Object;") (by simp [cd_at])) e.platform hpl
  obtain ⟨cV, hcV, heV, -, hkV⟩ := X.same.2.2.2.2.2 T.aS cS hcS
  have hcV' : V.heap[T.aS]? = some cV := hcV
  have hunk : cV.vm ≠ .unknown := by
    rw [heV]
    intro hz
    have hz' : cS.vm = .unknown := hz
    rw [hz'] at hiS
    cases hiS
  have hneS : T.aS ≠ a := Nat.ne_of_lt (Nat.lt_of_lt_of_le (Array.getElem?_eq_some_iff.mp hcS).1 hnew)
  obtain ⟨iM, hfM⟩ := Y.msg
  obtain ⟨tyC, eC, gC, nC⟩ := Cond.laysAt hfX hk Y.cause (w (.lays (cd_ex E) Bundle.tN "cause" "Ljava/lang/Throwable;") (by simp [cd_at]))
  obtain ⟨tyS, eS, gS, nS⟩ := Cond.laysAt hfX hk Y.stack (w (.lays (cd_ex E) Bundle.tN "stackTrace" Bundle.steD) (by simp [cd_at]))
  obtain ⟨tyP, eP, gP, nP⟩ := Cond.laysAt hfX hk Y.supp (w (.lays (cd_ex E) Bundle.tN "suppressedExceptions" Bundle.listD) (by simp [cd_at]))
  obtain ⟨tyM, eM, gM, nM⟩ := Cond.laysAt hfX hk hfM (w (.lays (cd_ex E) Bundle.tN "detailMessage" "Ljava/lang/String;") (by simp [cd_at]))
  obtain ⟨tyB, eB, gB, nB⟩ := Cond.laysAt hfX hk hfB (w (.lays (cd_ex E) Bundle.tN "backtrace" "Ljava/lang/Object;") (by simp [cd_at]))
  have zC := Cond.laysApart gB gC nB nC (by rw [hnB, Y.causeName]; decide)
  have zS := Cond.laysApart gB gS nB nS (by rw [hnB, Y.stackName]; decide)
  have zP := Cond.laysApart gB gP nB nP (by rw [hnB, Y.suppName]; decide)
  have hskip : SkipFacts T e.platform s (fun u => u) u0 ((preparedCellV T.toThrowableT (freshCell P1.m.cls kX) a u0 u1).withEntry V.cur) :=
    ⟨{ ci198 := cB, i198 := iB, fBack := fB }, ⟨hkB, hgB, haB, hsB⟩, by
      have hd := fresh_default (c := P1.m.cls) tyB
      rw [htB] at hd
      simpa [preparedCellV, Cell.setSlot, Cell.withEntry, Array.getElem?_setIfInBounds, zC, zS, zP, zC.symm, zS.symm, zP.symm, defaultValue] using hd, fun _ _ => rfl⟩
  obtain ⟨tm, mC, cdC, kC, vm1, hnC, -, -, -, -, -, -, -, hW1, st1⟩ := Steps.initColdS (tb := p.tables) (e := e) (below := below) (s := s) (U := V) X.here hexec X.warmed hpl hown (t := Bundle.initS (cd_ex E)) rfl rfl (Bundle.fit_spec hfit).2 hml
    (h (.instanceMethod (Bundle.initS (cd_ex E))) (by simp [cd_at, Bundle.passSAtoms])) (bytes := cd_bs E) (maxL := 2) (h (.code (Bundle.initS (cd_ex E)) (cd_bs E) 2 none) (by simp [cd_at, Bundle.passSAtoms])) (f := g) hg (a := a) (msg := msg) (rest := .ref a :: rest) hst hd6
  cases Option.some.inj (hnC.symm.trans hm1)
  obtain ⟨vm2, X2, st2⟩ := (X.noted hW1).ctorMessageOffV hexec (g := { g with stack := .ref a :: rest }) hg hsize T L Z LZ M LM (P1 :: P2 :: Ps)
    (fun P hP => by
      rcases List.mem_cons.mp hP with rfl | hP
      · exact L1
      · rcases List.mem_cons.mp hP with rfl | hP
        · exact L2
        · exact hL P hP) ⟨hsup1, hsup2, hpass⟩ (u0 := u0) (sen := u1) (self := a) hmsg (cell := freshCell P1.m.cls kX) (cellS := cV)
    hcell (fun _ => by simp) (by simp) rfl rfl (sel Bundle.tFill0 _ Y.fill0 (by decide) (w _ (by simp [cd_at]))) (sel Bundle.tFill _ Y.fill (by decide) (w _ (by simp [cd_at]))) hcV' hneS hunk (by rw [hkV _ (fun z => by cases z)]; exact hu0) (by rw [hkV _ (fun z => by cases z)]; exact hu1)
    (Takes.of_laid hk hord tyC (by rw [Y.causeType]; rfl)) (Takes.of_laid hk hord tyS (by rw [Y.stackType]; exact fits_refV_array _ u0)) (Takes.of_laid hk hord tyP (by rw [Y.suppType]; exact fits_refV_object _ u1))
    (Takes.of_laid hk hord tyM (by rw [Y.msgType]; exact fits_refV_object _ ⟨msg, hmsg⟩)) Y.objLocals hskip htr [] hd6 (by simp only [List.length_cons, hlen]; exact hR1) (by simp only [List.length_cons, hlen]; exact hR2)
  obtain ⟨hwk, hrun, hend, hWU, hsame⟩ := X2.athrowLeaves hexec (g := { g with stack := .ref a :: rest, pc := g.pc + 3 }) hg hlk hen hout (a := a) (rest := rest) rfl hd9 hlocks
  have hlt : a < ((V.setVm vm1).setVm vm2).heap.size := (Array.getElem?_eq_some_iff.mp hcell).1
  refine ⟨_, st1 _ (fun acts => ?_), hrun, hend, hWU, hsame.weaken (fun z hz hz2 => ?_) (Nat.le_refl _) (Nat.le_refl _), _, heapAt_setCell_self (s := (V.setVm vm1).setVm vm2) (plainBareV T.toThrowableT (freshCell P1.m.cls kX) a u0 u1 msg) hlt, rfl, rfl⟩
  · rw [doInvoke_state]
    exact st2 _ hwk
  · exfalso
    have hb : z.base = a := by
      simp only [List.nil_append, List.mem_cons, List.not_mem_nil, or_false] at hz
      rcases hz with rfl | rfl | rfl | rfl | rfl <;> rfl
    rw [hb] at hz2
    exact Nat.not_lt.mpr hnew hz2
end Cth
def cd_Ew (E : Nat) : Prop := ∀ c ∈ cd_at E, cd_h4 c = true ∨ (c ∈ lw_tbl ∧ cd_gw c = true)
theorem cd_Zr.lays {G : cd_Gl} {n d : String} {s : State} (h : cd_Zr G n d s) (h0 : cd_H0 G s.heap) (a : Array Value) : (Cond.laysStatic Bundle.tN n d).before a s = true := by
  obtain ⟨c, k, i, f, b, cell, v, h1, h2, h3, h4, h5, h6, h7, h8, h9, h10, h11⟩ := h
  have hb : b < G.2.2.size := (Array.getElem?_eq_some_iff.mp h5).1
  have hc : s.heap[b]? = some cell := by rw [h0.2.1 b hb]; exact h5
  simp [Cond.before, Cond.holds, Cond.value, h1, h2, h3, h4, hc, h6, h7, h8, h9]
theorem cd_Zr.ref {G : cd_Gl} {n d : String} {s : State} (h : cd_Zr G n d s) (h0 : cd_H0 G s.heap) (a : Array Value) : (Cond.isRef (.static Bundle.tN n d)).before a s = true := by
  obtain ⟨c, k, i, f, b, cell, v, h1, h2, h3, h4, h5, h6, h7, h8, h9, h10, h11⟩ := h
  have hb : b < G.2.2.size := (Array.getElem?_eq_some_iff.mp h5).1
  have hc : s.heap[b]? = some cell := by rw [h0.2.1 b hb]; exact h5
  have hv : (Term.static Bundle.tN n d).eval a s none [] s = some v := by
    simp [Term.eval, State.fieldNamed?, h2, h3, h4, hc, h6, h10]
  cases v <;> first | (simp [Cond.before, Cond.holds, Cond.value, hv]; done) | (simp [Value.isRef] at h11; done)
section Thr
variable {G : cd_Gl} {l : Launch} {C : cd_Cx} {k n : Nat} {w : cd_Wd} {pc : Nat} {lv : List (Option Value)} {rest : List Value} {y : MethodName} {cc : ByteArray} {nL : Nat} {ret : Option FieldType} {R : Room}
theorem cd_atoms (O : cd_Ok G y cc nL ret [] R C) {E : Nat} (hE : cd_Ew E) : ∀ c ∈ cd_at E, c.before (cx_a C) (cx_s C) = true := by
  have hz := O.2.2.2.2.2.2.2.1
  have h0 := O.2.2.2.2.2.2.2.2.2.2
  intro c hc
  rcases hE c hc with h | h
  · simp only [cd_h4, Bool.or_eq_true, decide_eq_true_eq] at h
    rcases h with ((rfl | rfl) | rfl) | rfl
    · exact hz.2.2.2.2.1.ref h0 _
    · exact hz.2.2.2.2.2.1.ref h0 _
    · exact hz.2.2.2.2.1.lays h0 _
    · exact hz.2.2.2.2.2.1.lays h0 _
  · exact cd_word O h
/-- the same point of the same frame, its beginning taken anew here -/
theorem cd_anew {p : Program} {e : Env} {s : State} {m : MethodId} {args : Array Value} {below : List Frame} {meth : Method} {c : Code} {T : State} {locs : List Loc} (X : Stand p l e R s m args below meth c T locs k n) {k' n' : Nat} (hc : k + k' ≤ R.cells) (hs : n + n' ≤ R.slots) :
    Stand p l e { frames := R.frames, cells := k', slots := n', locals := R.locals } ((T.setVm s.vm).setFrames (.invoking m args :: below)) m args below meth c T [] 0 0 := by
  obtain ⟨g₀, hfr⟩ := X.frames_eq
  have hcur : T.cur < T.threads.size := State.cur_lt_of_frames hfr
  have hcur' : (T.setVm s.vm).cur < (T.setVm s.vm).threads.size := hcur
  have hF : ((T.setVm s.vm).setFrames (.invoking m args :: below)).frames = .invoking m args :: below := State.frames_setFrames _ hcur'
  have hlim : e.platform.stackLimits ((T.setVm s.vm).setFrames (.invoking m args :: below)).me = e.platform.stackLimits s.me := by
    rw [State.stackLimits_setFrames]; exact X.limits
  have hby : ((T.setVm s.vm).setFrames (.invoking m args :: below)).me.stackBytes = s.me.stackBytes := by
    rw [State.stackBytes_setFrames]; exact X.bytes
  have hlo : ((T.setVm s.vm).setFrames (.invoking m args :: below)).localsInUse = s.localsInUse := by
    unfold State.localsInUse
    rw [hF, X.frames]
    rfl
  obtain ⟨t, ht, -⟩ := State.frames_cons hF
  refine ⟨X.admits, X.cas, X.clock, hF, ?_, ?_, X.method, X.code, X.here, X.tail, ?_, ?_, ?_, ?_⟩
  · have hr := X.room
    have hb := X.book
    have h1 := X.heapSize
    have h2 := X.used
    simp only [State.hasRoom, Bool.and_eq_true, decide_eq_true_eq] at hr ⊢
    obtain ⟨⟨⟨⟨r1, r2, r3, r4, r5, r6⟩, r7⟩, r8⟩, r9⟩ := hr
    have hFl : ((T.setVm s.vm).setFrames (.invoking m args :: below)).frames.length = s.frames.length := by rw [hF, X.frames]
    refine ⟨⟨⟨⟨?_, ?_, ?_, ?_, ?_, ?_⟩, ?_⟩, ?_⟩, ?_⟩
    · rw [hlo]; exact r1
    · rw [hFl]; exact r2
    · rw [hFl, hlim]; exact r3
    · rw [hlo]; exact r4
    · rw [hlo, hlim]; exact r5
    · rw [hby]; exact r6
    · show T.heap.size + k' ≤ _
      omega
    · show T.slotsUsed + n' ≤ _
      omega
    · exact hb
  · have := X.hears
    cases below with
    | nil => exact this
    | cons f r => cases f <;> exact this
  · exact X.warmed
  · rw [hlim]; exact X.limits
  · rw [hby]; exact X.bytes
  · have h := (State.sameButNew.refl ((T.setVm s.vm).setFrames (.invoking m args :: below)) ht).setFrames T.frames (State.cur_lt_of_frames hF)
    rw [State.setFrames_setFrames] at h
    have e1 : (T.setVm s.vm).setFrames T.frames = T.setVm s.vm := by
      obtain ⟨t', ht', -⟩ := State.frames_cons hfr
      exact State.setFrames_self (s := T.setVm s.vm) ht'
    rw [e1] at h
    exact h
theorem g_throw (O : cd_Ok G y cc nL ret [] R C) (hst : l.stackTraces = false) {mc ms E ik is ic : Nat} {tx : String} {Q : cd_Out → cd_Wd → Prop} (hE : cd_Ew E) (hfit : Bundle.fit (cd_ex E) = true)
    (hk : Cond.classLink y.cls ik (cd_ex E) ∈ lw_tbl ∧ cd_gw (Cond.classLink y.cls ik (cd_ex E)) = true) (hi : Cond.instantiable (cd_ex E) 6 ∈ lw_tbl ∧ cd_gw (Cond.instantiable (cd_ex E) 6) = true) (hini : Cond.initialized (cd_ex E) ∈ lw_tbl ∧ cd_gw (Cond.initialized (cd_ex E)) = true) (hm : Cond.methodLink y.cls ic (Bundle.initS (cd_ex E)) ∈ lw_tbl ∧ cd_gw (Cond.methodLink y.cls ic (Bundle.initS (cd_ex E))) = true) (hs : (y.cls, is, tx) ∈ cd_str)
    (d0 : decode cc pc = .ok (.new ik, 3)) (d3 : decode cc (pc + 3) = .ok (.dup, 1)) (d4 : decode cc (pc + 4) = .ok (.ldc is, 2)) (d6 : decode cc (pc + 6) = .ok (.invokespecial ic, 3)) (d9 : decode cc (pc + 9) = .ok (.athrow, 1)) (hlv : lv.length = nL)
    (hR1 : 5 < R.frames) (hR2 : (rest.map fun v => v.category).sum + 1 + 81 ≤ R.locals) (hR3 : k + 1 ≤ R.cells) (hR4 : n + 6 ≤ R.slots) (hmc : k + 1 ≤ mc) (hms : n + 6 ≤ ms) (hq : Q (.inr E) w) :
    cd_Go G l C (cd_MQ G (cx_s C) (cx_b C) mc ms Q) k n w pc lv rest := by
  intro H locs ls a1 b1 c1 T0 hT0 X0
  obtain ⟨o1, o2, o3, o4, o5, o6, o7, o8, o9, o10, o11⟩ := id O
  have Y0 := cd_anew X0 (k' := 1) (n' := 6) (by rw [o10]; exact hR3) (by rw [o10]; exact hR4)
  generalize hs' : (T0.setVm (cx_s C).vm).setFrames (.invoking (cx_m C) (cx_a C) :: cx_b C) = s' at Y0
  have hvm : s'.vm = (cx_s C).vm := by rw [← hs']; rfl
  have hhp : s'.heap = H := by rw [← hs']; exact hT0
  have hW0 : (cx_s C).WarmedH s'.vm := by rw [hvm]; exact State.WarmedH.refl _
  have O' : cd_Ok G y cc nL ret [] { frames := R.frames, cells := 1, slots := 6, locals := R.locals } (cx_p C, cx_e C, { frames := (cx_R C).frames, cells := 1, slots := 6, locals := (cx_R C).locals }, s', cx_m C, cx_a C, cx_b C, cx_h C, cx_c C) :=
    ⟨o1, o2, o3, by show s'.vm.findClass _ = _; rw [hvm]; exact o4, o5, o6, o7, o8.warm hW0, o9, by show Room.mk _ _ _ _ = _; rw [o10], by show cd_H0 G s'.heap; rw [hhp]; exact a1.h0⟩
  obtain ⟨cC, kC0, hfc, -⟩ := Cond.instantiable_spec (cd_word O' hi)
  obtain ⟨sa, hsa⟩ := O'.2.2.2.2.2.2.2.1.2.2.2.1 _ hs
  have hge : s'.heap.size ≤ H.size := by rw [hhp]; exact Nat.le_refl _
  obtain ⟨U, st, hrun, hend, hW, hsame, ce, hce, hown⟩ : ∃ U : State, Steps (cx_p C).tables (cx_e C) (cx_b C) (T0.setTop (F0 (cx_m C) pc ls rest)) U ∧ U.status = .running ∧ Ended U (cx_b C) (.threw H.size) ∧ s'.WarmedH U.vm ∧ s'.sameButNew ({ U with vm := s'.vm } : State) [] 1 6 ∧ ∃ ce, U.heap[H.size]? = some ce ∧ ce.vm = .none ∧ ce.cls = cC := by
    refine (W.newcK (Q := fun U => U.status = .running ∧ Ended U (cx_b C) (.threw H.size) ∧ s'.WarmedH U.vm ∧ s'.sameButNew ({ U with vm := s'.vm } : State) [] 1 6 ∧ ∃ ce, U.heap[H.size]? = some ce ∧ ce.vm = .none ∧ ce.cls = cC) (g := F0 (cx_m C) pc ls rest) o1 o2 O'.2.2.2.1 (cd_word O' hk) (cd_word O' hi) (cd_word O' hini) rfl d0 (Nat.le_refl 1) (Nat.le_refl 6) hfc rfl fun H1 kC hkC e1 z1 q1 => ?_) T0 hT0 Y0
    refine lv_dup o1 o2 d3 rfl ?_
    refine va_ldcS o1 o2 O'.2.2.2.1 hsa d4 ?_
    intro T hT X
    have htr : (cx_e C).platform.stackTraces = false := (show (cx_e C).platform.stackTraces = l.stackTraces by rw [X.admits.platform]).trans hst
    have hex : (cx_c C).exceptionTable.toList = [] := List.map_eq_nil_iff.mp o9
    have hsz : ls.size = (cx_c C).maxLocals := by rw [c1.1, hlv, o3]
    exact cd_cth X o1 htr O'.2.2.2.1 (E := E) (ic := ic) hfit (cd_word O' hm) (cd_atoms O' hE) rfl hfc hkC (a := H.size) (by rw [hT]; exact e1) hge (msg := .ref sa) rfl
      (g := F0 (cx_m C) (pc + 6) ls (.ref sa :: .ref H.size :: .ref H.size :: rest)) rfl hsz rfl rfl (rest := rest) rfl (by rw [o2]; exact d6) (by rw [o2]; exact d9) (fun x hx => by rw [hex] at hx; cases hx) (by show _ < (cx_R C).frames; rw [o10]; exact hR1) (by
        show 2 * 0 + ((Value.ref H.size :: rest).map fun v => v.category).sum + 81 ≤ (cx_R C).locals
        rw [o10, List.map_cons, List.sum_cons]
        have h1 : (Value.ref H.size).category = 1 := rfl
        omega) o6
  have hsz1 : H.size ≤ U.heap.size ∧ ∀ q, q < H.size → U.heap[q]? = H[q]? := by
    obtain ⟨-, h2, -, -, -, h6⟩ := hsame
    rw [hhp] at h2 h6
    refine ⟨h2, fun q hq => ?_⟩
    obtain ⟨c', g1, g2, g3, g4⟩ := h6 q _ (Array.getElem?_eq_getElem hq)
    have hss : c'.slots = H[q].slots := Array.ext_getElem? fun i => g4 i (fun h => by cases h)
    have hcc : c' = H[q] := by rw [hss] at g2; exact g2
    have g1' : U.heap[q]? = some c' := g1
    rw [g1', hcc, Array.getElem?_eq_getElem hq]
  have hsz2 : U.heap.size ≤ H.size + 1 := by
    obtain ⟨-, -, h3, -⟩ := hsame
    rw [hhp] at h3
    exact h3
  refine ⟨U, st, .threw H.size, locs, hrun, hend, ?_, ?_, b1, w, E, ce, a1.grow hsz1.1 hsz1.2 (fun q c hq hc => ?_), hce, hown.1, a1.1, ?_, hq⟩
  · exact State.WarmedH.trans hW0 hW
  · have h9 : (T0.setVm (cx_s C).vm).sameButNew ({ U with vm := (cx_s C).vm } : State) [] 1 6 := by
      rw [hvm, ← hs'] at hsame
      obtain ⟨g1, g2⟩ := hsame
      refine ⟨?_, g2⟩
      rw [State.setFrames_setFrames] at g1
      exact g1
    have h8 := X0.same.trans h9
    rw [List.append_nil] at h8
    exact h8.weaken (fun _ h _ => h) hmc hms
  · have hlt := (Array.getElem?_eq_some_iff.mp hc).1
    have : q = H.size := by omega
    subst this
    rw [hce] at hc
    cases hc
    rw [hown.1]; rfl
  · rw [hown.2, ← hvm]; exact hfc
theorem cd_ldcSW {p : Program} {e : Env} {R : Room} {s : State} {m : MethodId} {args : Array Value} {below : List Frame} {meth : Method} {c : Code} {H : Heap} {locs : List Loc} {cells slots : Nat} {Q : State → Prop} {cc : ByteArray} {pc : Nat} {ls : Array Slot} {rest : List Value} (hexec : p.tables.exec = Jvm.exec) (hb : c.code = cc) {own tx : String} {index q : Nat} (hown : s.vm.findClass own = some m.cls) (hZ : vk_R own index tx q s) (hdg : decode cc pc = .ok (.ldc_w index, 3))
    (k : W p l e R s m args below meth c H locs cells slots Q (F0 m (pc + 3) ls (.ref q :: rest))) : W p l e R s m args below meth c H locs cells slots Q (F0 m pc ls rest) := by
  intro T hT X
  obtain ⟨t, a1, b1⟩ := k T hT X
  exact ⟨t, X.ldcStringW hexec hown (text := tx) (a := q) hZ.1 hZ.2 (g := F0 m pc ls rest) rfl (by rw [hb]; exact hdg) t a1, b1⟩
theorem g_throwW (O : cd_Ok G y cc nL ret [] R C) (hst : l.stackTraces = false) {mc ms E ik is ic : Nat} {tx : String} {Q : cd_Out → cd_Wd → Prop} (hE : cd_Ew E) (hfit : Bundle.fit (cd_ex E) = true)
    (hk : Cond.classLink y.cls ik (cd_ex E) ∈ lw_tbl ∧ cd_gw (Cond.classLink y.cls ik (cd_ex E)) = true) (hi : Cond.instantiable (cd_ex E) 6 ∈ lw_tbl ∧ cd_gw (Cond.instantiable (cd_ex E) 6) = true) (hini : Cond.initialized (cd_ex E) ∈ lw_tbl ∧ cd_gw (Cond.initialized (cd_ex E)) = true) (hm : Cond.methodLink y.cls ic (Bundle.initS (cd_ex E)) ∈ lw_tbl ∧ cd_gw (Cond.methodLink y.cls ic (Bundle.initS (cd_ex E))) = true) (hs : (y.cls, is, tx) ∈ cd_str)
    (d0 : decode cc pc = .ok (.new ik, 3)) (d3 : decode cc (pc + 3) = .ok (.dup, 1)) (d4 : decode cc (pc + 4) = .ok (.ldc_w is, 3)) (d6 : decode cc (pc + 7) = .ok (.invokespecial ic, 3)) (d9 : decode cc (pc + 10) = .ok (.athrow, 1)) (hlv : lv.length = nL)
    (hR1 : 5 < R.frames) (hR2 : (rest.map fun v => v.category).sum + 1 + 81 ≤ R.locals) (hR3 : k + 1 ≤ R.cells) (hR4 : n + 6 ≤ R.slots) (hmc : k + 1 ≤ mc) (hms : n + 6 ≤ ms) (hq : Q (.inr E) w) :
    cd_Go G l C (cd_MQ G (cx_s C) (cx_b C) mc ms Q) k n w pc lv rest := by
  intro H locs ls a1 b1 c1 T0 hT0 X0
  obtain ⟨o1, o2, o3, o4, o5, o6, o7, o8, o9, o10, o11⟩ := id O
  have Y0 := cd_anew X0 (k' := 1) (n' := 6) (by rw [o10]; exact hR3) (by rw [o10]; exact hR4)
  generalize hs' : (T0.setVm (cx_s C).vm).setFrames (.invoking (cx_m C) (cx_a C) :: cx_b C) = s' at Y0
  have hvm : s'.vm = (cx_s C).vm := by rw [← hs']; rfl
  have hhp : s'.heap = H := by rw [← hs']; exact hT0
  have hW0 : (cx_s C).WarmedH s'.vm := by rw [hvm]; exact State.WarmedH.refl _
  have O' : cd_Ok G y cc nL ret [] { frames := R.frames, cells := 1, slots := 6, locals := R.locals } (cx_p C, cx_e C, { frames := (cx_R C).frames, cells := 1, slots := 6, locals := (cx_R C).locals }, s', cx_m C, cx_a C, cx_b C, cx_h C, cx_c C) :=
    ⟨o1, o2, o3, by show s'.vm.findClass _ = _; rw [hvm]; exact o4, o5, o6, o7, o8.warm hW0, o9, by show Room.mk _ _ _ _ = _; rw [o10], by show cd_H0 G s'.heap; rw [hhp]; exact a1.h0⟩
  obtain ⟨cC, kC0, hfc, -⟩ := Cond.instantiable_spec (cd_word O' hi)
  obtain ⟨sa, hsa⟩ := O'.2.2.2.2.2.2.2.1.2.2.2.1 _ hs
  have hge : s'.heap.size ≤ H.size := by rw [hhp]; exact Nat.le_refl _
  obtain ⟨U, st, hrun, hend, hW, hsame, ce, hce, hown⟩ : ∃ U : State, Steps (cx_p C).tables (cx_e C) (cx_b C) (T0.setTop (F0 (cx_m C) pc ls rest)) U ∧ U.status = .running ∧ Ended U (cx_b C) (.threw H.size) ∧ s'.WarmedH U.vm ∧ s'.sameButNew ({ U with vm := s'.vm } : State) [] 1 6 ∧ ∃ ce, U.heap[H.size]? = some ce ∧ ce.vm = .none ∧ ce.cls = cC := by
    refine (W.newcK (Q := fun U => U.status = .running ∧ Ended U (cx_b C) (.threw H.size) ∧ s'.WarmedH U.vm ∧ s'.sameButNew ({ U with vm := s'.vm } : State) [] 1 6 ∧ ∃ ce, U.heap[H.size]? = some ce ∧ ce.vm = .none ∧ ce.cls = cC) (g := F0 (cx_m C) pc ls rest) o1 o2 O'.2.2.2.1 (cd_word O' hk) (cd_word O' hi) (cd_word O' hini) rfl d0 (Nat.le_refl 1) (Nat.le_refl 6) hfc rfl fun H1 kC hkC e1 z1 q1 => ?_) T0 hT0 Y0
    refine lv_dup o1 o2 d3 rfl ?_
    refine cd_ldcSW o1 o2 O'.2.2.2.1 hsa d4 ?_
    intro T hT X
    have htr : (cx_e C).platform.stackTraces = false := (show (cx_e C).platform.stackTraces = l.stackTraces by rw [X.admits.platform]).trans hst
    have hex : (cx_c C).exceptionTable.toList = [] := List.map_eq_nil_iff.mp o9
    have hsz : ls.size = (cx_c C).maxLocals := by rw [c1.1, hlv, o3]
    exact cd_cth X o1 htr O'.2.2.2.1 (E := E) (ic := ic) hfit (cd_word O' hm) (cd_atoms O' hE) rfl hfc hkC (a := H.size) (by rw [hT]; exact e1) hge (msg := .ref sa) rfl
      (g := F0 (cx_m C) (pc + 7) ls (.ref sa :: .ref H.size :: .ref H.size :: rest)) rfl hsz rfl rfl (rest := rest) rfl (by rw [o2]; exact d6) (by rw [o2]; exact d9) (fun x hx => by rw [hex] at hx; cases hx) (by show _ < (cx_R C).frames; rw [o10]; exact hR1) (by
        show 2 * 0 + ((Value.ref H.size :: rest).map fun v => v.category).sum + 81 ≤ (cx_R C).locals
        rw [o10, List.map_cons, List.sum_cons]
        have h1 : (Value.ref H.size).category = 1 := rfl
        omega) o6
  have hsz1 : H.size ≤ U.heap.size ∧ ∀ q, q < H.size → U.heap[q]? = H[q]? := by
    obtain ⟨-, h2, -, -, -, h6⟩ := hsame
    rw [hhp] at h2 h6
    refine ⟨h2, fun q hq => ?_⟩
    obtain ⟨c', g1, g2, g3, g4⟩ := h6 q _ (Array.getElem?_eq_getElem hq)
    have hss : c'.slots = H[q].slots := Array.ext_getElem? fun i => g4 i (fun h => by cases h)
    have hcc : c' = H[q] := by rw [hss] at g2; exact g2
    have g1' : U.heap[q]? = some c' := g1
    rw [g1', hcc, Array.getElem?_eq_getElem hq]
  have hsz2 : U.heap.size ≤ H.size + 1 := by
    obtain ⟨-, -, h3, -⟩ := hsame
    rw [hhp] at h3
    exact h3
  refine ⟨U, st, .threw H.size, locs, hrun, hend, ?_, ?_, b1, w, E, ce, a1.grow hsz1.1 hsz1.2 (fun q c hq hc => ?_), hce, hown.1, a1.1, ?_, hq⟩
  · exact State.WarmedH.trans hW0 hW
  · have h9 : (T0.setVm (cx_s C).vm).sameButNew ({ U with vm := (cx_s C).vm } : State) [] 1 6 := by
      rw [hvm, ← hs'] at hsame
      obtain ⟨g1, g2⟩ := hsame
      refine ⟨?_, g2⟩
      rw [State.setFrames_setFrames] at g1
      exact g1
    have h8 := X0.same.trans h9
    rw [List.append_nil] at h8
    exact h8.weaken (fun _ h _ => h) hmc hms
  · have hlt := (Array.getElem?_eq_some_iff.mp hc).1
    have : q = H.size := by omega
    subst this
    rw [hce] at hc
    cases hc
    rw [hown.1]; rfl
  · rw [hown.2, ← hvm]; exact hfc
end Thr
/-! ===== A CATCH: the search through the table of handlers ===== -/
def cd_cov (z : Nat × Nat × Nat × Nat) (pc : Nat) : Bool := decide (z.1 ≤ pc) && decide (pc < z.2.1)
def cd_Sk (pl : Platform) (s0 : State) (d : ClassId) (pc : Nat) (th : ClassId) (hp : Nat) : List (Nat × Nat × Nat × Nat) → Prop
  | [] => False
  | z :: t => (cd_cov z pc = false ∧ cd_Sk pl s0 d pc th hp t) ∨ (cd_cov z pc = true ∧ z.2.2.2 ≠ 0 ∧ ∃ c, s0.vm.ClassLinks pl d z.2.2.2 c ∧ ((s0.vm.assignable th c = true ∧ z.2.2.1 = hp) ∨ (s0.vm.assignable th c = false ∧ cd_Sk pl s0 d pc th hp t)))
theorem cd_seek {e : Env} {s0 : State} {f : JFrame} {x hp : Nat} {ce : Cell} (hobj : ∀ k, ce.vm ≠ .statics k) (hk0 : ∃ k, s0.vm.classes[ce.cls]? = some k) :
    ∀ (tb : List ExceptionTableEntry) (S : State), s0.WarmedH S.vm → S.heap[x]? = some ce → cd_Sk e.platform s0 f.method.cls f.pc ce.cls hp (tb.map fun h => (h.startPc, h.endPc, h.handlerPc, h.catchType)) →
      ∃ vm', s0.WarmedH vm' ∧ ∀ (Q : Handler → Pre) (E : CtlPost) (d : Bool) (acts : List Action), wp (findHandler.go f x tb) Q E e d acts S ↔ Q (.found hp) d acts (S.setVm vm') := by
  obtain ⟨k0, hk0⟩ := hk0
  intro tb
  induction tb with
  | nil => intro S _ _ h; exact h.elim
  | cons z t ih =>
    intro S hW hcell h
    rcases h with ⟨hc, h⟩ | ⟨hc, hz0, c, hl, h⟩
    · obtain ⟨vm', hW', hq⟩ := ih S hW hcell h
      exact ⟨vm', hW', fun Q E d acts => (W.findHandler_go_skip hc).trans (hq Q E d acts)⟩
    · have hcov : covers z f.pc = true := hc
      simp only [covers] at hcov
      obtain ⟨dk, _, _, kt, hd, _, _, _, _, hkt, _, hopen⟩ := hl.here
      have hWn := hW.noted hd hopen (State.rightAt_cls hl)
      obtain ⟨ha, ht⟩ := (resolveClass_links e.toSetting (hW.classLinks hl)).op (op := VmOp.resolveClass f.method.cls z.catchType) rfl
      obtain ⟨k1, hk1, -⟩ := hWn.alike.2.2 _ _ hk0
      obtain ⟨k2, hk2, -⟩ := hWn.alike.2.2 _ _ hkt
      have hz0' : ¬ z.catchType = 0 := hz0
      rcases h with ⟨hfit, hpp⟩ | ⟨hno, h⟩
      · have hfit' : (S.vm.noted f.method.cls z.catchType (.cls c)).assignable ce.cls c = true := by rw [hWn.alike.assignable]; exact hfit
        refine ⟨_, hWn, fun Q E d acts => ?_⟩
        rw [← hpp]
        simp [findHandler.go, hcov, hz0', ha, ht, hcell, hobj, hk1, hk2, hfit', VmOp.dirties, VmOp.acts]
      · have hno' : (S.vm.noted f.method.cls z.catchType (.cls c)).assignable ce.cls c = false := by rw [hWn.alike.assignable]; exact hno
        obtain ⟨vm', hW', hq⟩ := ih (S.setVm (S.vm.noted f.method.cls z.catchType (.cls c))) hWn hcell h
        refine ⟨vm', hW', fun Q E d acts => ?_⟩
        refine Iff.trans ?_ (hq Q E d acts)
        simp [findHandler.go, hcov, hz0', ha, ht, hcell, hobj, hk1, hk2, hno', VmOp.dirties, VmOp.acts]
section Catch
variable {G : cd_Gl} {l : Launch} {C : cd_Cx} {Q : State → Prop} {k n : Nat} {w : cd_Wd} {pc : Nat} {lv : List (Option Value)} {y : MethodName} {cc : ByteArray} {nL : Nat} {ret : Option FieldType} {ex : List (Nat × Nat × Nat × Nat)} {R : Room}
/-- one step: the frame goes on at the handler -/
theorem cd_caught {tb : Tables} {e : Env} {s target : State} {g : JFrame} {c : Code} {below : List Frame} {x hp : Nat} {vm' : Vm} (h : At s g.method c below)
    (hf : ∀ (Q : Handler → Pre) (E : CtlPost) (d : Bool) (acts : List Action), wp (findHandler g x) Q E e d acts ((s.setTop g).pushFrame (.throwing x)) ↔ Q (.found hp) d acts (((s.setTop g).pushFrame (.throwing x)).setVm vm'))
    (hr : Steps tb e below ((s.setVm vm').setTop { g with pc := hp, stack := [.ref x] }) target) : Steps tb e below ((s.setTop g).pushFrame (.throwing x)) target := by
  obtain ⟨hgo, hw⟩ := h.throwing x
  refine Steps.head hgo hw ?_
  rw [stepThread_throwing (frames_entered h.top _)]
  have hst : (stepThrowing e ((s.setTop g).pushFrame (.throwing x)) x (.java g :: s.frames.tail)).1 = (((s.setTop g).pushFrame (.throwing x)).setVm vm').setFrames (.java { g with pc := hp, stack := [.ref x] } :: s.frames.tail) := by
    simp only [stepThrowing, searchFrame, vmDo]
    generalize hres : Sem.go _ e false [] ((s.setTop g).pushFrame (.throwing x)) = res
    obtain ⟨as, rfl, ha⟩ := Sem.eq_ok_of hres (a := Handler.found hp) (s' := ((s.setTop g).pushFrame (.throwing x)).setVm vm') (acts' := []) (by simp [hf _ _ _ _])
    rfl
  rw [hst]
  obtain ⟨g₀, hg⟩ := Option.isSome_iff_exists.mp h.top
  obtain ⟨r, hfr⟩ := State.topJava?_eq_some.mp hg
  have hfr' : (s.setVm vm').frames = .java g₀ :: r := hfr
  rw [State.setTop_of_frames _ hfr'] at hr
  have e1 : (((s.setTop g).pushFrame (.throwing x)).setVm vm').setFrames (.java { g with pc := hp, stack := [.ref x] } :: s.frames.tail) = (s.setVm vm').setFrames (.java { g with pc := hp, stack := [.ref x] } :: r) := by
    rw [hfr, List.tail_cons, State.pushFrame, State.setTop_of_frames _ hfr]
    show (((s.setFrames _).setFrames _).setVm vm').setFrames _ = _
    rw [State.setFrames_setFrames]
    show ((s.setVm vm').setFrames _).setFrames _ = _
    rw [State.setFrames_setFrames]
  rw [e1]
  exact hr
/-- caught: the way through the table -/
theorem gx_catch (O : cd_Ok G y cc nL ret ex R C) {E : Nat} (hp : Nat) (hsk : ∀ th, (cx_s C).vm.findClass (cd_ex E) = some th → ∀ pl : Platform, pl.magicAccessors = ({} : Platform).magicAccessors → cd_Sk pl (cx_s C) (cx_m C).cls pc th hp ex)
    (h : ∀ x, cd_Go G l C Q k n w hp lv [.ref x]) : cd_Gx G l C Q k n w pc lv E := by
  intro T locs ls st x ce hH hl hls h1 h2 h3 h4 X
  have hpl : (cx_e C).platform.magicAccessors = ({} : Platform).magicAccessors := by rw [X.admits.platform]
  obtain ⟨k9, h9, -⟩ := Vm.findClass_spec h4
  have hsk' := hsk ce.cls h4 _ hpl
  rw [← O.2.2.2.2.2.2.2.2.1] at hsk'
  obtain ⟨vm', hW', hq⟩ := cd_seek (e := cx_e C) (f := F0 (cx_m C) pc ls st) (fun z hz => by rw [h2] at hz; cases hz) ⟨k9, h9⟩ (cx_c C).exceptionTable.toList ((T.setTop (F0 (cx_m C) pc ls st)).pushFrame (.throwing x)) (by rw [Stand.throwing_vm]; exact X.warmed) (by rw [Stand.throwing_heap]; exact h1) hsk'
  obtain ⟨t, s1, s2⟩ := h x T.heap locs ls hH hl hls (T.setVm vm') rfl (X.noted hW')
  refine ⟨t, cd_caught (g := F0 (cx_m C) pc ls st) X.here (fun Q E d acts => ?_) s1, s2⟩
  rw [W.findHandler_eq (meth := cx_h C) (code := cx_c C) (by rw [Stand.throwing_vm]; exact X.method') X.code]
  exact hq Q E d acts
/-- the steps of a search, out of the words -/
theorem sk_skip {pl : Platform} {s0 : State} {d : ClassId} {th : ClassId} {hp : Nat} {z : Nat × Nat × Nat × Nat} {t : List (Nat × Nat × Nat × Nat)} (hc : cd_cov z pc = false) (h : cd_Sk pl s0 d pc th hp t) : cd_Sk pl s0 d pc th hp (z :: t) := Or.inl ⟨hc, h⟩
theorem sk_hit {pl : Platform} (hpl : pl.magicAccessors = ({} : Platform).magicAccessors) (O : cd_Ok G y cc nL ret ex R C) {th : ClassId} {nm : String} (hth : (cx_s C).vm.findClass nm = some th) {z : Nat × Nat × Nat × Nat} {t : List (Nat × Nat × Nat × Nat)} (hc : cd_cov z pc = true) (h0 : z.2.2.2 ≠ 0)
    (hl : Cond.classLink y.cls z.2.2.2 nm ∈ lw_tbl ∧ cd_gw (Cond.classLink y.cls z.2.2.2 nm) = true) (hk : Cond.castable nm nm ∈ lw_tbl ∧ cd_gw (Cond.castable nm nm) = true) : cd_Sk pl (cx_s C) (cx_m C).cls pc th z.2.2.1 (z :: t) := by
  obtain ⟨c5, hc5, hcl5⟩ := Cond.classLink_spec O.2.2.2.1 (cd_word O hl) pl hpl
  obtain ⟨c3, c4, hc3, hc4, hasg⟩ := Cond.castable_spec (cd_word O hk)
  cases Option.some.inj (hc3.symm.trans hth)
  cases Option.some.inj (hc4.symm.trans hc5)
  exact Or.inr ⟨hc, h0, _, hcl5, Or.inl ⟨hasg, rfl⟩⟩
theorem sk_pass {pl : Platform} (hpl : pl.magicAccessors = ({} : Platform).magicAccessors) (O : cd_Ok G y cc nL ret ex R C) {th : ClassId} {hp : Nat} {nm nm' : String} (hth : (cx_s C).vm.findClass nm = some th) {z : Nat × Nat × Nat × Nat} {t : List (Nat × Nat × Nat × Nat)} (hc : cd_cov z pc = true) (h0 : z.2.2.2 ≠ 0)
    (hl : Cond.classLink y.cls z.2.2.2 nm' ∈ lw_tbl ∧ cd_gw (Cond.classLink y.cls z.2.2.2 nm') = true) (hk : va_Nc nm nm' (cx_s C)) (h : cd_Sk pl (cx_s C) (cx_m C).cls pc th hp t) : cd_Sk pl (cx_s C) (cx_m C).cls pc th hp (z :: t) := by
  obtain ⟨c5, hc5, hcl5⟩ := Cond.classLink_spec O.2.2.2.1 (cd_word O hl) pl hpl
  obtain ⟨c3, c4, hc3, hc4, hasg⟩ := hk
  cases Option.some.inj (hc3.symm.trans hth)
  cases Option.some.inj (hc4.symm.trans hc5)
  exact Or.inr ⟨hc, h0, _, hcl5, Or.inr ⟨hasg, h⟩⟩
end Catch
end
section
/-! ===== reads whose value is known under another name ===== -/
section RowsV
variable {G : cd_Gl} {l : Launch} {C : cd_Cx} {Q : State → Prop} {k n : Nat} {w : cd_Wd} {pc : Nat} {lv : List (Option Value)} {rest : List Value} {y : MethodName} {cc : ByteArray} {nL : Nat} {ret : Option FieldType} {ex : List (Nat × Nat × Nat × Nat)} {R : Room}
theorem g_getV (O : cd_Ok G y cc nL ret ex R C) {ci : Nat} {q : vw_C} {ty : Nat → FieldType} (hC : cd_Cl ci q ty) {a : Nat} (fk : Nat) {idx : Nat} (hk : fk < q.2.2) (hr : cd_rf ci fk = false) (ha : cd_kd w a = 2 * ci + 2)
    (hl : Cond.fieldLink y.cls idx (q.2.1 fk).1 (q.2.1 fk).2.1 (q.2.1 fk).2.2.1 ∈ lw_tbl ∧ cd_gw (Cond.fieldLink y.cls idx (q.2.1 fk).1 (q.2.1 fk).2.1 (q.2.1 fk).2.2.1) = true) (hd : decode cc pc = .ok (.getfield idx, 3)) {v : Int32} (hv : cd_I w (32 * ci + fk) a 0 = v)
    (h : cd_Go G l C Q k n w (pc + 3) lv (.int v :: rest)) : cd_Go G l C Q k n w pc lv (.ref a :: rest) := by
  subst hv
  exact g_getI O hC fk hk hr ha hl hd h
theorem g_getOV (O : cd_Ok G y cc nL ret ex R C) {ci : Nat} {q : vw_C} {ty : Nat → FieldType} (hC : cd_Cl ci q ty) {a : Nat} (fk : Nat) {idx : Nat} (hk : fk < q.2.2) (hr : cd_rf ci fk = true) (ha : cd_kd w a = 2 * ci + 2)
    (hl : Cond.fieldLink y.cls idx (q.2.1 fk).1 (q.2.1 fk).2.1 (q.2.1 fk).2.2.1 ∈ lw_tbl ∧ cd_gw (Cond.fieldLink y.cls idx (q.2.1 fk).1 (q.2.1 fk).2.1 (q.2.1 fk).2.2.1) = true) (hd : decode cc pc = .ok (.getfield idx, 3)) {r : Option Nat} (hv : cd_O w (32 * ci + fk) a 0 = r)
    (h : cd_Go G l C Q k n w (pc + 3) lv (va_rf r :: rest)) : cd_Go G l C Q k n w pc lv (.ref a :: rest) := by
  subst hv
  exact g_getO O hC fk hk hr ha hl hd h
theorem g_ialdV (O : cd_Ok G y cc nL ret ex R C) {a : Nat} (i : Nat) {x : Int32} (ht : cd_ty[i]? = some .int) (hk : cd_tk i = 0) (ha : cd_kd w a = 2 * i + 1) (hin : vp_in x (cd_ln w a)) (hd : decode cc pc = .ok (.iaload, 1)) {v : Int32} (hv : cd_I w (1000 + i) a x.toNatClampNeg = v)
    (h : cd_Go G l C Q k n w (pc + 1) lv (.int v :: rest)) : cd_Go G l C Q k n w pc lv (.int x :: .ref a :: rest) := by
  subst hv
  exact g_iald O i ht hk ha hin hd h
theorem g_zaldV (O : cd_Ok G y cc nL ret ex R C) {a : Nat} (i : Nat) {x : Int32} (ht : cd_ty[i]? = some .boolean) (hk : cd_tk i = 0) (ha : cd_kd w a = 2 * i + 1) (hin : vp_in x (cd_ln w a)) (hd : decode cc pc = .ok (.baload, 1)) {v : Int32} (hv : cd_I w (1000 + i) a x.toNatClampNeg = v)
    (h : cd_Go G l C Q k n w (pc + 1) lv (.int v :: rest)) : cd_Go G l C Q k n w pc lv (.int x :: .ref a :: rest) := by
  subst hv
  exact g_zald O i ht hk ha hin hd h
theorem g_aaldV (O : cd_Ok G y cc nL ret ex R C) {a : Nat} (i : Nat) {x : Int32} {D : String} (ht : cd_ty[i]? = some (.object D)) (hk : cd_tk i = 1) (ha : cd_kd w a = 2 * i + 1) (hin : vp_in x (cd_ln w a)) (hd : decode cc pc = .ok (.aaload, 1)) {r : Option Nat} (hv : cd_O w (1000 + i) a x.toNatClampNeg = r)
    (h : cd_Go G l C Q k n w (pc + 1) lv (va_rf r :: rest)) : cd_Go G l C Q k n w pc lv (.int x :: .ref a :: rest) := by
  subst hv
  exact g_aald O i ht hk ha hin hd h
/-- a number on the stack under another name -/
theorem g_as (x : Int32) {z : Int32} (e : z = x) (h : cd_Go G l C Q k n w pc lv (.int x :: rest)) : cd_Go G l C Q k n w pc lv (.int z :: rest) := by
  subst e
  exact h
/-- a call's two ends, apart -/
theorem cd_two {y' : MethodName} {N mc ms : Nat} {av : List Value} {Q0 : cd_Out → cd_Wd → Prop} (h : cd_Ct G l y' N mc ms av w Q0) (h1 : ∀ v w', Q0 (.inl v) w' → cd_Go G l C Q (k + mc) (n + ms) w' (pc + 3) lv (v.toList ++ rest)) (h2 : ∀ E w', Q0 (.inr E) w' → cd_Gx G l C Q (k + mc) (n + ms) w' pc lv E) :
    cd_Ct G l y' N mc ms av w (fun o w' => match o with
      | .inl v => cd_Go G l C Q (k + mc) (n + ms) w' (pc + 3) lv (v.toList ++ rest)
      | .inr E => cd_Gx G l C Q (k + mc) (n + ms) w' pc lv E) := h.mono fun o w' hq => by
  cases o with
  | inl v => exact h1 v w' hq
  | inr E => exact h2 E w' hq
end RowsV
end
section
theorem cat_rf (r : Option Nat) : (va_rf r).category = 1 := by cases r <;> rfl
set_option maxRecDepth 100000 in
theorem c_Cd : cd_Cl 0 q_Cd t_Cd := ⟨rfl, by decide +kernel, by decide +kernel, by decide +kernel, by decide, by decide +kernel⟩
set_option maxRecDepth 100000 in
theorem c_Do : cd_Cl 1 q_Do t_Do := ⟨rfl, by decide +kernel, by decide +kernel, by decide +kernel, by decide, by decide +kernel⟩
set_option maxRecDepth 100000 in
theorem c_Ob : cd_Cl 2 q_Ob t_Ob := ⟨rfl, by decide +kernel, by decide +kernel, by decide +kernel, by decide, by decide +kernel⟩
set_option maxRecDepth 100000 in
theorem c_Fi : cd_Cl 3 q_Fi t_Fi := ⟨rfl, by decide +kernel, by decide +kernel, by decide +kernel, by decide, by decide +kernel⟩
set_option maxRecDepth 100000 in
theorem c_Ca : cd_Cl 4 q_Ca t_Ca := ⟨rfl, by decide +kernel, by decide +kernel, by decide +kernel, by decide, by decide +kernel⟩
set_option maxRecDepth 100000 in
theorem c_Re : cd_Cl 5 q_Re t_Re := ⟨rfl, by decide +kernel, by decide +kernel, by decide +kernel, by decide, by decide +kernel⟩
set_option maxRecDepth 100000 in
theorem c_Mo : cd_Cl 6 q_Mo t_Mo := ⟨rfl, by decide +kernel, by decide +kernel, by decide +kernel, by decide, by decide +kernel⟩
theorem pl_Cd : plainName "CapabilityDomains" = true ∧ "CapabilityDomains" ≠ "java/lang/invoke/MethodHandle" ∧ "CapabilityDomains" ≠ "java/lang/invoke/VarHandle" := by decide +kernel
theorem pl_Do : plainName "CapabilityDomains$Domain" = true ∧ "CapabilityDomains$Domain" ≠ "java/lang/invoke/MethodHandle" ∧ "CapabilityDomains$Domain" ≠ "java/lang/invoke/VarHandle" := by decide +kernel
theorem pl_Ob : plainName "CapabilityDomains$DomainObject" = true ∧ "CapabilityDomains$DomainObject" ≠ "java/lang/invoke/MethodHandle" ∧ "CapabilityDomains$DomainObject" ≠ "java/lang/invoke/VarHandle" := by decide +kernel
theorem pl_Fi : plainName "CapabilityDomains$Field" = true ∧ "CapabilityDomains$Field" ≠ "java/lang/invoke/MethodHandle" ∧ "CapabilityDomains$Field" ≠ "java/lang/invoke/VarHandle" := by decide +kernel
theorem pl_Ca : plainName "CapabilityDomains$Capability" = true ∧ "CapabilityDomains$Capability" ≠ "java/lang/invoke/MethodHandle" ∧ "CapabilityDomains$Capability" ≠ "java/lang/invoke/VarHandle" := by decide +kernel
theorem pl_Re : plainName "CapabilityDomains$Reach" = true ∧ "CapabilityDomains$Reach" ≠ "java/lang/invoke/MethodHandle" ∧ "CapabilityDomains$Reach" ≠ "java/lang/invoke/VarHandle" := by decide +kernel
theorem pl_Mo : plainName "CapabilityDomainsModel" = true ∧ "CapabilityDomainsModel" ≠ "java/lang/invoke/MethodHandle" ∧ "CapabilityDomainsModel" ≠ "java/lang/invoke/VarHandle" := by decide +kernel
theorem pl_La : plainName "CapabilityDomainsLaw" = true ∧ "CapabilityDomainsLaw" ≠ "java/lang/invoke/MethodHandle" ∧ "CapabilityDomainsLaw" ≠ "java/lang/invoke/VarHandle" := by decide +kernel
set_option maxRecDepth 100000 in
theorem ew_1 : cd_Ew 1 := by unfold cd_Ew; decide +kernel
set_option maxRecDepth 100000 in
theorem ew_2 : cd_Ew 2 := by unfold cd_Ew; decide +kernel
set_option maxRecDepth 100000 in
theorem ew_3 : cd_Ew 3 := by unfold cd_Ew; decide +kernel
set_option maxRecDepth 100000 in
theorem ew_4 : cd_Ew 4 := by unfold cd_Ew; decide +kernel
set_option maxRecDepth 100000 in
theorem ew_5 : cd_Ew 5 := by unfold cd_Ew; decide +kernel
set_option maxRecDepth 100000 in
theorem ew_6 : cd_Ew 6 := by unfold cd_Ew; decide +kernel
theorem ss_Cd_34 : ("CapabilityDomains", 34, "all domains were made") ∈ cd_str := List.mem_of_getElem? (i := 0) rfl
theorem ss_Cd_251 : ("CapabilityDomains", 251, "no such domain") ∈ cd_str := List.mem_of_getElem? (i := 1) rfl
theorem ss_Cd_253 : ("CapabilityDomains", 253, "the domain has ended") ∈ cd_str := List.mem_of_getElem? (i := 2) rfl
theorem ss_Cd_50 : ("CapabilityDomains", 50, "the domain is full") ∈ cd_str := List.mem_of_getElem? (i := 3) rfl
theorem ss_Cd_104 : ("CapabilityDomains", 104, "no such object") ∈ cd_str := List.mem_of_getElem? (i := 4) rfl
theorem ss_Cd_255 : ("CapabilityDomains", 255, "no such field") ∈ cd_str := List.mem_of_getElem? (i := 5) rfl
theorem ss_Cd_75 : ("CapabilityDomains", 75, "no such object to link to") ∈ cd_str := List.mem_of_getElem? (i := 6) rfl
theorem ss_Cd_86 : ("CapabilityDomains", 86, "no such slot") ∈ cd_str := List.mem_of_getElem? (i := 7) rfl
theorem ss_Cd_257 : ("CapabilityDomains", 257, "the slot is empty") ∈ cd_str := List.mem_of_getElem? (i := 8) rfl
theorem ss_Cd_244 : ("CapabilityDomains", 244, "no such domain or slot") ∈ cd_str := List.mem_of_getElem? (i := 9) rfl
theorem ss_Cd_247 : ("CapabilityDomains", 247, "rights or uses out of range") ∈ cd_str := List.mem_of_getElem? (i := 10) rfl
theorem ss_Cd_249 : ("CapabilityDomains", 249, "all capabilities were made") ∈ cd_str := List.mem_of_getElem? (i := 11) rfl
theorem ss_Cd_120 : ("CapabilityDomains", 120, "the capability is dead") ∈ cd_str := List.mem_of_getElem? (i := 12) rfl
theorem ss_Cd_127 : ("CapabilityDomains", 127, "the parent lacks a right") ∈ cd_str := List.mem_of_getElem? (i := 13) rfl
theorem ss_Cd_141 : ("CapabilityDomains", 141, "only the home revokes") ∈ cd_str := List.mem_of_getElem? (i := 14) rfl
theorem ss_Cd_262 : ("CapabilityDomains", 262, "the capability is dead or used up") ∈ cd_str := List.mem_of_getElem? (i := 15) rfl
theorem ss_Cd_264 : ("CapabilityDomains", 264, "the capability lacks the right") ∈ cd_str := List.mem_of_getElem? (i := 16) rfl
theorem ss_Cd_161 : ("CapabilityDomains", 161, "the field holds no int") ∈ cd_str := List.mem_of_getElem? (i := 17) rfl
theorem ss_Cd_169 : ("CapabilityDomains", 169, "no such object to pass") ∈ cd_str := List.mem_of_getElem? (i := 18) rfl
theorem ss_Cd_178 : ("CapabilityDomains", 178, "the home has no room for the copies") ∈ cd_str := List.mem_of_getElem? (i := 19) rfl
theorem ss_Cd_192 : ("CapabilityDomains", 192, "the field holds no capability") ∈ cd_str := List.mem_of_getElem? (i := 20) rfl
end
section
def cd_fN (w : cd_Wd) (a : Nat) (v : Int32) : cd_Wd := cd_wO (cd_wI (cd_wI w 96 a 0 v) 97 a 0 (-1)) 98 a 0 none
def cd_fL (w : cd_Wd) (a : Nat) (t : Int32) : cd_Wd := cd_wO (cd_wI (cd_wI w 96 a 0 0) 97 a 0 t) 98 a 0 none
def cd_fC (w : cd_Wd) (a c : Nat) : cd_Wd := cd_wO (cd_wI (cd_wI w 96 a 0 0) 97 a 0 (-1)) 98 a 0 (some c)
def cd_bi (p : Prop) [Decidable p] : Int32 := if p then 1 else 0
set_option maxHeartbeats 4000000 in
set_option maxRecDepth 100000 in
theorem ct_Fi_init {G : cd_Gl} {l : Launch} {w : cd_Wd} {Q : cd_Out → cd_Wd → Prop} {a : Nat} (ha : cd_kd w a = 8) (h : Q (.inl none) (cd_wI w 97 a 0 (-1))) : cd_Ct G l y_Fi_init 1 0 0 [.ref a] w Q := by
  refine cd_ofW cw_Fi_init (by simp [Value.category, cat_rf]) (Nat.le_of_ble_eq_true rfl) fun C O => ?_
  change cd_Go G l C _ 0 0 w 0 [some (.ref a)] []
  first | refine g_aload_n O 0 d_Fi_init_0 rfl rfl ?_ | refine g_aload_nq O 0 d_Fi_init_0 rfl rfl ?_
  refine g_obj O ml_Fi_3 im_JO_init cw_JO_init d_Fi_init_1 rfl (Nat.le_of_ble_eq_true rfl) (Nat.le_of_ble_eq_true rfl) ?_
  first | refine g_aload_n O 0 d_Fi_init_4 rfl rfl ?_ | refine g_aload_nq O 0 d_Fi_init_4 rfl rfl ?_
  refine g_iconst (v := -1) O d_Fi_init_5 (by decide) ?_
  refine g_putI O c_Fi 1 (by decide) rfl (by assumption) (Or.inl rfl) (Or.inl rfl) lk_Fi_9 d_Fi_init_6 ?_
  refine g_ret O d_Fi_init_9 (Nat.le_of_ble_eq_true rfl) (Nat.le_of_ble_eq_true rfl) ?_
  exact h
set_option maxHeartbeats 4000000 in
set_option maxRecDepth 100000 in
theorem ct_Fi_isLink {G : cd_Gl} {l : Launch} {w : cd_Wd} {Q : cd_Out → cd_Wd → Prop} {a : Nat} (ha : cd_kd w a = 8) (h : Q (.inl (some (.int (cd_bi (¬ cd_I w 97 a 0 = -1))))) w) : cd_Ct G l y_Fi_isLink 0 0 0 [.ref a] w Q := by
  refine cd_ofW cw_Fi_isLink (by simp [Value.category, cat_rf]) (Nat.le_of_ble_eq_true rfl) fun C O => ?_
  change cd_Go G l C _ 0 0 w 0 [some (.ref a)] []
  first | refine g_aload_n O 0 d_Fi_isLink_0 rfl rfl ?_ | refine g_aload_nq O 0 d_Fi_isLink_0 rfl rfl ?_
  refine g_getI O c_Fi 1 (by decide) rfl (by assumption) lk_Fi_9 d_Fi_isLink_1 ?_
  refine g_iconst (v := -1) O d_Fi_isLink_4 (by decide) ?_
  refine g_icmp_eq O 12 d_Fi_isLink_5 (by decide) (fun c5 => ?_) (fun c5 => ?_)
  · refine g_iconst (v := 0) O d_Fi_isLink_12 (by decide) ?_
    refine g_zret O d_Fi_isLink_13 (by first | exact Or.inl rfl | exact Or.inr rfl | assumption) (Nat.le_of_ble_eq_true rfl) (Nat.le_of_ble_eq_true rfl) ?_
    simp only [cd_bi] at h; first | (rw [if_pos (by assumption)] at h; exact h) | (rw [if_neg (by simpa using (by assumption))] at h; exact h)
  · refine g_iconst (v := 1) O d_Fi_isLink_8 (by decide) ?_
    refine g_goto O 13 d_Fi_isLink_9 (by decide) ?_
    refine g_zret O d_Fi_isLink_13 (by first | exact Or.inl rfl | exact Or.inr rfl | assumption) (Nat.le_of_ble_eq_true rfl) (Nat.le_of_ble_eq_true rfl) ?_
    simp only [cd_bi] at h; first | (rw [if_pos (by assumption)] at h; exact h) | (rw [if_neg (by simpa using (by assumption))] at h; exact h)
set_option maxHeartbeats 4000000 in
set_option maxRecDepth 100000 in
theorem ct_Fi_isNumber {G : cd_Gl} {l : Launch} {w : cd_Wd} {Q : cd_Out → cd_Wd → Prop} {a : Nat} (ha : cd_kd w a = 8) (h : Q (.inl (some (.int (cd_bi (cd_I w 97 a 0 = -1 ∧ cd_O w 98 a 0 = none))))) w) : cd_Ct G l y_Fi_isNumber 0 0 0 [.ref a] w Q := by
  refine cd_ofW cw_Fi_isNumber (by simp [Value.category, cat_rf]) (Nat.le_of_ble_eq_true rfl) fun C O => ?_
  change cd_Go G l C _ 0 0 w 0 [some (.ref a)] []
  first | refine g_aload_n O 0 d_Fi_isNumber_0 rfl rfl ?_ | refine g_aload_nq O 0 d_Fi_isNumber_0 rfl rfl ?_
  refine g_getI O c_Fi 1 (by decide) rfl (by assumption) lk_Fi_9 d_Fi_isNumber_1 ?_
  refine g_iconst (v := -1) O d_Fi_isNumber_4 (by decide) ?_
  refine g_icmp_ne O 19 d_Fi_isNumber_5 (by decide) (fun c5 => ?_) (fun c5 => ?_)
  · refine g_iconst (v := 0) O d_Fi_isNumber_19 (by decide) ?_
    refine g_zret O d_Fi_isNumber_20 (by first | exact Or.inl rfl | exact Or.inr rfl | assumption) (Nat.le_of_ble_eq_true rfl) (Nat.le_of_ble_eq_true rfl) ?_
    simp only [cd_bi] at h; first | (rw [if_pos ⟨by assumption, by assumption⟩] at h; exact h) | (rw [if_neg (by simp_all)] at h; exact h)
  · first | refine g_aload_n O 0 d_Fi_isNumber_8 rfl rfl ?_ | refine g_aload_nq O 0 d_Fi_isNumber_8 rfl rfl ?_
    refine g_getO O c_Fi 2 (by decide) rfl (by assumption) lk_Fi_15 d_Fi_isNumber_9 ?_
    refine g_ifnonnull O 19 d_Fi_isNumber_12 (by decide) (fun x12 c12 => ?_) (fun c12 => ?_)
    · refine g_iconst (v := 0) O d_Fi_isNumber_19 (by decide) ?_
      refine g_zret O d_Fi_isNumber_20 (by first | exact Or.inl rfl | exact Or.inr rfl | assumption) (Nat.le_of_ble_eq_true rfl) (Nat.le_of_ble_eq_true rfl) ?_
      simp only [cd_bi] at h; first | (rw [if_pos ⟨by assumption, by assumption⟩] at h; exact h) | (rw [if_neg (by simp_all)] at h; exact h)
    · refine g_iconst (v := 1) O d_Fi_isNumber_15 (by decide) ?_
      refine g_goto O 20 d_Fi_isNumber_16 (by decide) ?_
      refine g_zret O d_Fi_isNumber_20 (by first | exact Or.inl rfl | exact Or.inr rfl | assumption) (Nat.le_of_ble_eq_true rfl) (Nat.le_of_ble_eq_true rfl) ?_
      simp only [cd_bi] at h; first | (rw [if_pos ⟨by assumption, by assumption⟩] at h; exact h) | (rw [if_neg (by simp_all)] at h; exact h)
set_option maxHeartbeats 4000000 in
set_option maxRecDepth 100000 in
theorem ct_Fi_becomeNumber {G : cd_Gl} {l : Launch} {w : cd_Wd} {Q : cd_Out → cd_Wd → Prop} {a : Nat} {v : Int32} (ha : cd_kd w a = 8) (h : Q (.inl none) (cd_fN w a v)) : cd_Ct G l y_Fi_becomeNumber 0 0 0 [.ref a, .int v] w Q := by
  refine cd_ofW cw_Fi_becomeNumber (by simp [Value.category, cat_rf]) (Nat.le_of_ble_eq_true rfl) fun C O => ?_
  change cd_Go G l C _ 0 0 w 0 [some (.ref a), some (.int v)] []
  first | refine g_aload_n O 0 d_Fi_becomeNumber_0 rfl rfl ?_ | refine g_aload_nq O 0 d_Fi_becomeNumber_0 rfl rfl ?_
  refine g_iload_n O 1 d_Fi_becomeNumber_1 rfl rfl ?_
  refine g_putI O c_Fi 0 (by decide) rfl (by assumption) (Or.inl rfl) (Or.inl rfl) lk_Fi_19 d_Fi_becomeNumber_2 ?_
  first | refine g_aload_n O 0 d_Fi_becomeNumber_5 rfl rfl ?_ | refine g_aload_nq O 0 d_Fi_becomeNumber_5 rfl rfl ?_
  refine g_iconst (v := -1) O d_Fi_becomeNumber_6 (by decide) ?_
  refine g_putI O c_Fi 1 (by decide) rfl (by assumption) (Or.inl rfl) (Or.inl rfl) lk_Fi_9 d_Fi_becomeNumber_7 ?_
  first | refine g_aload_n O 0 d_Fi_becomeNumber_10 rfl rfl ?_ | refine g_aload_nq O 0 d_Fi_becomeNumber_10 rfl rfl ?_
  refine g_null O d_Fi_becomeNumber_11 ?_
  first | refine g_putS O c_Fi 2 (by decide) rfl (by assumption) (Or.inl rfl) lk_Fi_15 d_Fi_becomeNumber_12 ?_ | refine g_putO O c_Fi 2 (by decide) rfl (by assumption) (Or.inl rfl) lk_Fi_15 d_Fi_becomeNumber_12 ?_
  refine g_ret O d_Fi_becomeNumber_15 (Nat.le_of_ble_eq_true rfl) (Nat.le_of_ble_eq_true rfl) ?_
  exact h
set_option maxHeartbeats 4000000 in
set_option maxRecDepth 100000 in
theorem ct_Fi_becomeLink {G : cd_Gl} {l : Launch} {w : cd_Wd} {Q : cd_Out → cd_Wd → Prop} {a : Nat} {v : Int32} (ha : cd_kd w a = 8) (h : Q (.inl none) (cd_fL w a v)) : cd_Ct G l y_Fi_becomeLink 0 0 0 [.ref a, .int v] w Q := by
  refine cd_ofW cw_Fi_becomeLink (by simp [Value.category, cat_rf]) (Nat.le_of_ble_eq_true rfl) fun C O => ?_
  change cd_Go G l C _ 0 0 w 0 [some (.ref a), some (.int v)] []
  first | refine g_aload_n O 0 d_Fi_becomeLink_0 rfl rfl ?_ | refine g_aload_nq O 0 d_Fi_becomeLink_0 rfl rfl ?_
  refine g_iconst (v := 0) O d_Fi_becomeLink_1 (by decide) ?_
  refine g_putI O c_Fi 0 (by decide) rfl (by assumption) (Or.inl rfl) (Or.inl rfl) lk_Fi_19 d_Fi_becomeLink_2 ?_
  first | refine g_aload_n O 0 d_Fi_becomeLink_5 rfl rfl ?_ | refine g_aload_nq O 0 d_Fi_becomeLink_5 rfl rfl ?_
  refine g_iload_n O 1 d_Fi_becomeLink_6 rfl rfl ?_
  refine g_putI O c_Fi 1 (by decide) rfl (by assumption) (Or.inl rfl) (Or.inl rfl) lk_Fi_9 d_Fi_becomeLink_7 ?_
  first | refine g_aload_n O 0 d_Fi_becomeLink_10 rfl rfl ?_ | refine g_aload_nq O 0 d_Fi_becomeLink_10 rfl rfl ?_
  refine g_null O d_Fi_becomeLink_11 ?_
  first | refine g_putS O c_Fi 2 (by decide) rfl (by assumption) (Or.inl rfl) lk_Fi_15 d_Fi_becomeLink_12 ?_ | refine g_putO O c_Fi 2 (by decide) rfl (by assumption) (Or.inl rfl) lk_Fi_15 d_Fi_becomeLink_12 ?_
  refine g_ret O d_Fi_becomeLink_15 (Nat.le_of_ble_eq_true rfl) (Nat.le_of_ble_eq_true rfl) ?_
  exact h
set_option maxHeartbeats 4000000 in
set_option maxRecDepth 100000 in
theorem ct_Fi_becomeCapability {G : cd_Gl} {l : Launch} {w : cd_Wd} {Q : cd_Out → cd_Wd → Prop} {a c : Nat} (ha : cd_kd w a = 8) (h : Q (.inl none) (cd_fC w a c)) : cd_Ct G l y_Fi_becomeCapability 0 0 0 [.ref a, .ref c] w Q := by
  refine cd_ofW cw_Fi_becomeCapability (by simp [Value.category, cat_rf]) (Nat.le_of_ble_eq_true rfl) fun C O => ?_
  change cd_Go G l C _ 0 0 w 0 [some (.ref a), some (.ref c)] []
  first | refine g_aload_n O 0 d_Fi_becomeCapability_0 rfl rfl ?_ | refine g_aload_nq O 0 d_Fi_becomeCapability_0 rfl rfl ?_
  refine g_iconst (v := 0) O d_Fi_becomeCapability_1 (by decide) ?_
  refine g_putI O c_Fi 0 (by decide) rfl (by assumption) (Or.inl rfl) (Or.inl rfl) lk_Fi_19 d_Fi_becomeCapability_2 ?_
  first | refine g_aload_n O 0 d_Fi_becomeCapability_5 rfl rfl ?_ | refine g_aload_nq O 0 d_Fi_becomeCapability_5 rfl rfl ?_
  refine g_iconst (v := -1) O d_Fi_becomeCapability_6 (by decide) ?_
  refine g_putI O c_Fi 1 (by decide) rfl (by assumption) (Or.inl rfl) (Or.inl rfl) lk_Fi_9 d_Fi_becomeCapability_7 ?_
  first | refine g_aload_n O 0 d_Fi_becomeCapability_10 rfl rfl ?_ | refine g_aload_nq O 0 d_Fi_becomeCapability_10 rfl rfl ?_
  first | refine g_aload_n O 1 d_Fi_becomeCapability_11 rfl rfl ?_ | refine g_aload_nq O 1 d_Fi_becomeCapability_11 rfl rfl ?_
  first | refine g_putS O c_Fi 2 (by decide) rfl (by assumption) (Or.inl rfl) lk_Fi_15 d_Fi_becomeCapability_12 ?_ | refine g_putO O c_Fi 2 (by decide) rfl (by assumption) (Or.inl rfl) lk_Fi_15 d_Fi_becomeCapability_12 ?_
  refine g_ret O d_Fi_becomeCapability_15 (Nat.le_of_ble_eq_true rfl) (Nat.le_of_ble_eq_true rfl) ?_
  exact h
end
section
/-! ===== THE STATE OF THE CLASS: numbers, and where they lie =====
sD domains made, sC capabilities made, sE ended, sT there, sN sL sK a field's int, link, capability, sS a slot, kH kT kP kR kU kV kX a capability's home, target, parent, rights, uses, revoked, dead -/
abbrev cd_S : Type := Nat × Nat × (Nat → Bool) × (Nat → Nat → Bool) × (Nat → Nat → Nat → Int32 × Option Nat × Option Nat) × (Nat → Nat → Option Nat) × (Nat → Nat × Nat × Option Nat × Int32 × Int32 × Bool × Bool)
def sD (σ : cd_S) : Nat := σ.1
def sC (σ : cd_S) : Nat := σ.2.1
def sE (σ : cd_S) (d : Nat) : Bool := σ.2.2.1 d
def sT (σ : cd_S) (d o : Nat) : Bool := σ.2.2.2.1 d o
def sF (σ : cd_S) (d o f : Nat) : Int32 × Option Nat × Option Nat := σ.2.2.2.2.1 d o f
def sS (σ : cd_S) (d i : Nat) : Option Nat := σ.2.2.2.2.2.1 d i
def sK (σ : cd_S) (c : Nat) : Nat × Nat × Option Nat × Int32 × Int32 × Bool × Bool := σ.2.2.2.2.2.2 c
def kH (σ : cd_S) (c : Nat) : Nat := (sK σ c).1
def kT (σ : cd_S) (c : Nat) : Nat := (sK σ c).2.1
def kP (σ : cd_S) (c : Nat) : Option Nat := (sK σ c).2.2.1
def kR (σ : cd_S) (c : Nat) : Int32 := (sK σ c).2.2.2.1
def kU (σ : cd_S) (c : Nat) : Int32 := (sK σ c).2.2.2.2.1
def kV (σ : cd_S) (c : Nat) : Bool := (sK σ c).2.2.2.2.2.1
def kX (σ : cd_S) (c : Nat) : Bool := (sK σ c).2.2.2.2.2.2
def cd_b (b : Bool) : Int32 := if b then 1 else 0
def cd_l (o : Option Nat) : Int32 := match o with
  | none => -1
  | some t => nI t
/-- the addresses: A 0 the domains' array, A 1 d a domain, A 2 d its objects' array, A 3 d its slots' array, A 4 d o an object, A 5 d o its fields' array, A 6 d o f a field, A 7 the capabilities' array, A 8 c a capability, A 9 the reach, A 10, A 11, A 12 its arrays copyNumber, order, seen -/
abbrev cd_A : Type := Nat → Nat → Nat → Nat → Nat
def cd_va (σ : cd_S) (k d o f : Nat) : Prop := match k with
  | 0 => d = 0 ∧ o = 0 ∧ f = 0
  | 1 => d < sD σ ∧ o = 0 ∧ f = 0
  | 2 => d < sD σ ∧ o = 0 ∧ f = 0
  | 3 => d < sD σ ∧ o = 0 ∧ f = 0
  | 4 => d < sD σ ∧ o < 12 ∧ f = 0
  | 5 => d < sD σ ∧ o < 12 ∧ f = 0
  | 6 => d < sD σ ∧ o < 12 ∧ f < 3
  | 7 => d = 0 ∧ o = 0 ∧ f = 0
  | 8 => d < sC σ ∧ o = 0 ∧ f = 0
  | 9 => d = 0 ∧ o = 0 ∧ f = 0
  | 10 => d = 0 ∧ o = 0 ∧ f = 0
  | 11 => d = 0 ∧ o = 0 ∧ f = 0
  | 12 => d = 0 ∧ o = 0 ∧ f = 0
  | _ => False
def rp_x (w : cd_Wd) (x : Nat) (A : cd_A) (σ : cd_S) : Prop := cd_kd w x = 2 ∧ cd_O w 0 x 0 = some (A 0 0 0 0) ∧ cd_kd w (A 0 0 0 0) = 7 ∧ cd_ln w (A 0 0 0 0) = 6 ∧ cd_O w 2 x 0 = some (A 7 0 0 0) ∧ cd_kd w (A 7 0 0 0) = 13 ∧ cd_ln w (A 7 0 0 0) = 40 ∧
  cd_O w 4 x 0 = some (A 9 0 0 0) ∧ cd_kd w (A 9 0 0 0) = 12 ∧ cd_O w 161 (A 9 0 0 0) 0 = some (A 10 0 0 0) ∧ cd_kd w (A 10 0 0 0) = 1 ∧ cd_ln w (A 10 0 0 0) = 12 ∧ cd_O w 162 (A 9 0 0 0) 0 = some (A 11 0 0 0) ∧ cd_kd w (A 11 0 0 0) = 1 ∧ cd_ln w (A 11 0 0 0) = 12 ∧
  cd_O w 163 (A 9 0 0 0) 0 = some (A 12 0 0 0) ∧ cd_kd w (A 12 0 0 0) = 3 ∧ cd_ln w (A 12 0 0 0) = 12 ∧ cd_I w 1 x 0 = nI (sD σ) ∧ sD σ ≤ 6 ∧ cd_I w 3 x 0 = nI (sC σ) ∧ sC σ ≤ 40
def rp_d (w : cd_Wd) (A : cd_A) (σ : cd_S) : Prop := ∀ d, d < sD σ → cd_O w 1003 (A 0 0 0 0) d = some (A 1 d 0 0) ∧ cd_kd w (A 1 d 0 0) = 4 ∧ cd_O w 33 (A 1 d 0 0) 0 = some (A 2 d 0 0) ∧ cd_kd w (A 2 d 0 0) = 9 ∧ cd_ln w (A 2 d 0 0) = 12 ∧ cd_O w 34 (A 1 d 0 0) 0 = some (A 3 d 0 0) ∧ cd_kd w (A 3 d 0 0) = 13 ∧ cd_ln w (A 3 d 0 0) = 8 ∧ cd_I w 32 (A 1 d 0 0) 0 = cd_b (sE σ d)
def rp_o (w : cd_Wd) (A : cd_A) (σ : cd_S) : Prop := ∀ d o, d < sD σ → o < 12 → cd_O w 1004 (A 2 d 0 0) o = some (A 4 d o 0) ∧ cd_kd w (A 4 d o 0) = 6 ∧ cd_I w 64 (A 4 d o 0) 0 = cd_b (sT σ d o) ∧ cd_O w 65 (A 4 d o 0) 0 = some (A 5 d o 0) ∧ cd_kd w (A 5 d o 0) = 11 ∧ cd_ln w (A 5 d o 0) = 3
def rp_f (w : cd_Wd) (A : cd_A) (σ : cd_S) : Prop := ∀ d o f, d < sD σ → o < 12 → f < 3 → cd_O w 1005 (A 5 d o 0) f = some (A 6 d o f) ∧ cd_kd w (A 6 d o f) = 8 ∧ cd_I w 96 (A 6 d o f) 0 = (sF σ d o f).1 ∧ cd_I w 97 (A 6 d o f) 0 = cd_l (sF σ d o f).2.1 ∧ cd_O w 98 (A 6 d o f) 0 = (sF σ d o f).2.2.map (fun c => A 8 c 0 0)
def rp_s (w : cd_Wd) (A : cd_A) (σ : cd_S) : Prop := ∀ d i, d < sD σ → i < 8 → cd_O w 1006 (A 3 d 0 0) i = (sS σ d i).map (fun c => A 8 c 0 0)
def rp_c (w : cd_Wd) (A : cd_A) (σ : cd_S) : Prop := ∀ c, c < sC σ → cd_O w 1006 (A 7 0 0 0) c = some (A 8 c 0 0) ∧ cd_kd w (A 8 c 0 0) = 10 ∧ cd_O w 128 (A 8 c 0 0) 0 = some (A 1 (kH σ c) 0 0) ∧ cd_I w 129 (A 8 c 0 0) 0 = nI (kT σ c) ∧ cd_O w 130 (A 8 c 0 0) 0 = (kP σ c).map (fun c => A 8 c 0 0) ∧ cd_I w 131 (A 8 c 0 0) 0 = kR σ c ∧ cd_I w 132 (A 8 c 0 0) 0 = kU σ c ∧ cd_I w 133 (A 8 c 0 0) 0 = cd_b (kV σ c) ∧ cd_I w 134 (A 8 c 0 0) 0 = cd_b (kX σ c)
def rp_i (A : cd_A) (σ : cd_S) : Prop := ∀ k d o f k' d' o' f', cd_va σ k d o f → cd_va σ k' d' o' f' → A k d o f = A k' d' o' f' → k = k' ∧ d = d' ∧ o = o' ∧ f = f'
/-- what is always so of the numbers -/
def rp_w (σ : cd_S) : Prop := (∀ d i c, d < sD σ → i < 8 → sS σ d i = some c → c < sC σ) ∧ (∀ d o f c, d < sD σ → o < 12 → f < 3 → (sF σ d o f).2.2 = some c → c < sC σ) ∧ (∀ d o f t, d < sD σ → o < 12 → f < 3 → (sF σ d o f).2.1 = some t → t < 12) ∧
  (∀ c, c < sC σ → kH σ c < sD σ ∧ kT σ c < 12 ∧ ∀ q, kP σ c = some q → q < c)
def cd_Rep (w : cd_Wd) (x : Nat) (A : cd_A) (σ : cd_S) : Prop := rp_x w x A σ ∧ rp_d w A σ ∧ rp_o w A σ ∧ rp_f w A σ ∧ rp_s w A σ ∧ rp_c w A σ ∧ rp_i A σ ∧ rp_w σ
section RepR
variable {w : cd_Wd} {x : Nat} {A : cd_A} {σ : cd_S}
theorem cd_Rep.top (h : cd_Rep w x A σ) : rp_x w x A σ := h.1
theorem cd_Rep.d (h : cd_Rep w x A σ) {d : Nat} (hd : d < sD σ) : cd_O w 1003 (A 0 0 0 0) d = some (A 1 d 0 0) ∧ cd_kd w (A 1 d 0 0) = 4 ∧ cd_O w 33 (A 1 d 0 0) 0 = some (A 2 d 0 0) ∧ cd_kd w (A 2 d 0 0) = 9 ∧ cd_ln w (A 2 d 0 0) = 12 ∧ cd_O w 34 (A 1 d 0 0) 0 = some (A 3 d 0 0) ∧ cd_kd w (A 3 d 0 0) = 13 ∧ cd_ln w (A 3 d 0 0) = 8 ∧ cd_I w 32 (A 1 d 0 0) 0 = cd_b (sE σ d) := h.2.1 d hd
theorem cd_Rep.o (h : cd_Rep w x A σ) {d o : Nat} (hd : d < sD σ) (ho : o < 12) : cd_O w 1004 (A 2 d 0 0) o = some (A 4 d o 0) ∧ cd_kd w (A 4 d o 0) = 6 ∧ cd_I w 64 (A 4 d o 0) 0 = cd_b (sT σ d o) ∧ cd_O w 65 (A 4 d o 0) 0 = some (A 5 d o 0) ∧ cd_kd w (A 5 d o 0) = 11 ∧ cd_ln w (A 5 d o 0) = 3 := h.2.2.1 d o hd ho
theorem cd_Rep.f (h : cd_Rep w x A σ) {d o f : Nat} (hd : d < sD σ) (ho : o < 12) (hf : f < 3) : cd_O w 1005 (A 5 d o 0) f = some (A 6 d o f) ∧ cd_kd w (A 6 d o f) = 8 ∧ cd_I w 96 (A 6 d o f) 0 = (sF σ d o f).1 ∧ cd_I w 97 (A 6 d o f) 0 = cd_l (sF σ d o f).2.1 ∧ cd_O w 98 (A 6 d o f) 0 = (sF σ d o f).2.2.map (fun c => A 8 c 0 0) := h.2.2.2.1 d o f hd ho hf
theorem cd_Rep.s (h : cd_Rep w x A σ) {d i : Nat} (hd : d < sD σ) (hi : i < 8) : cd_O w 1006 (A 3 d 0 0) i = (sS σ d i).map (fun c => A 8 c 0 0) := h.2.2.2.2.1 d i hd hi
theorem cd_Rep.c (h : cd_Rep w x A σ) {c : Nat} (hc : c < sC σ) : cd_O w 1006 (A 7 0 0 0) c = some (A 8 c 0 0) ∧ cd_kd w (A 8 c 0 0) = 10 ∧ cd_O w 128 (A 8 c 0 0) 0 = some (A 1 (kH σ c) 0 0) ∧ cd_I w 129 (A 8 c 0 0) 0 = nI (kT σ c) ∧ cd_O w 130 (A 8 c 0 0) 0 = (kP σ c).map (fun c => A 8 c 0 0) ∧ cd_I w 131 (A 8 c 0 0) 0 = kR σ c ∧ cd_I w 132 (A 8 c 0 0) 0 = kU σ c ∧ cd_I w 133 (A 8 c 0 0) 0 = cd_b (kV σ c) ∧ cd_I w 134 (A 8 c 0 0) 0 = cd_b (kX σ c) := h.2.2.2.2.2.1 c hc
theorem cd_Rep.i (h : cd_Rep w x A σ) : rp_i A σ := h.2.2.2.2.2.2.1
theorem cd_Rep.wf (h : cd_Rep w x A σ) : rp_w σ := h.2.2.2.2.2.2.2
end RepR
/-! ### numbers that are indices -/
theorem ix_of {o : Int32} {n : Nat} (hn : n < 2 ^ 31) (h0 : ¬ o < 0) (h1 : ¬ nI n ≤ o) : ∃ j : Nat, j < n ∧ o = nI j := by
  rcases pk_ix o hn with h | h | h
  · exact absurd h h0
  · exact absurd h h1
  · exact h
theorem ix_in {j n : Nat} (h : j < n) (hn : n < 2 ^ 31) : vp_in (nI j) n := vp_in_nI h hn
theorem cd_b_ne {b : Bool} : ¬ cd_b b = 0 ↔ b = true := by cases b <;> decide
theorem cd_b_eq {b : Bool} : cd_b b = 0 ↔ b = false := by cases b <;> decide
theorem cd_b01 (b : Bool) : cd_b b = 0 ∨ cd_b b = 1 := by cases b <;> decide
theorem cd_l_eq {o : Option Nat} (h : ∀ t, o = some t → t < 12) : cd_l o = -1 ↔ o = none := by
  cases o with
  | none => exact ⟨fun _ => rfl, fun _ => rfl⟩
  | some t =>
    have ht := h t rfl
    refine ⟨fun h => ?_, fun h => by cases h⟩
    exfalso
    have h2 : nI t = -1 := h
    have h3 : (nI t).toInt = (-1 : Int32).toInt := by rw [h2]
    rw [nI_toInt (by omega)] at h3
    have h4 : (-1 : Int32).toInt = -1 := by decide
    omega
/-- does the domain d have the object of this number -/
def hasO (σ : cd_S) (d : Nat) (o : Int32) : Bool := decide (¬ o < 0) && decide (¬ nI 12 ≤ o) && sT σ d o.toNatClampNeg
theorem hasO_neg {σ : cd_S} {d : Nat} {o : Int32} (h : o < 0 ∨ nI 12 ≤ o) : hasO σ d o = false := by
  rcases h with h | h <;> simp [hasO, h]
theorem hasO_nI {σ : cd_S} {d j : Nat} (h : j < 12) : hasO σ d (nI j) = sT σ d j := by
  have h1 : ¬ nI j < 0 := nI_pos (by omega)
  have h2 : ¬ nI 12 ≤ nI j := nI_ge h (by omega)
  simp [hasO, h1, h2, nI_clamp (show j < 2 ^ 31 by omega)]
end
section
/-! ===== what one write makes of the state ===== -/
def setE (σ : cd_S) (d : Nat) (b : Bool) : cd_S := (σ.1, σ.2.1, fun d' => if d' = d then b else σ.2.2.1 d', σ.2.2.2)
def setT (σ : cd_S) (d o : Nat) (b : Bool) : cd_S := (σ.1, σ.2.1, σ.2.2.1, fun d' o' => if d' = d ∧ o' = o then b else σ.2.2.2.1 d' o', σ.2.2.2.2)
def setF (σ : cd_S) (d o f : Nat) (t : Int32 × Option Nat × Option Nat) : cd_S := (σ.1, σ.2.1, σ.2.2.1, σ.2.2.2.1, fun d' o' f' => if d' = d ∧ o' = o ∧ f' = f then t else σ.2.2.2.2.1 d' o' f', σ.2.2.2.2.2)
def setS (σ : cd_S) (d i : Nat) (r : Option Nat) : cd_S := (σ.1, σ.2.1, σ.2.2.1, σ.2.2.2.1, σ.2.2.2.2.1, fun d' i' => if d' = d ∧ i' = i then r else σ.2.2.2.2.2.1 d' i', σ.2.2.2.2.2.2)
def setK (σ : cd_S) (c : Nat) (t : Nat × Nat × Option Nat × Int32 × Int32 × Bool × Bool) : cd_S := (σ.1, σ.2.1, σ.2.2.1, σ.2.2.2.1, σ.2.2.2.2.1, σ.2.2.2.2.2.1, fun c' => if c' = c then t else σ.2.2.2.2.2.2 c')
def setU (σ : cd_S) (c : Nat) (u : Int32) : cd_S := setK σ c (kH σ c, kT σ c, kP σ c, kR σ c, u, kV σ c, kX σ c)
def setV (σ : cd_S) (c : Nat) (b : Bool) : cd_S := setK σ c (kH σ c, kT σ c, kP σ c, kR σ c, kU σ c, b, kX σ c)
def setX (σ : cd_S) (c : Nat) (b : Bool) : cd_S := setK σ c (kH σ c, kT σ c, kP σ c, kR σ c, kU σ c, kV σ c, b)
theorem sK_setK (σ : cd_S) (c : Nat) (t : Nat × Nat × Option Nat × Int32 × Int32 × Bool × Bool) (c' : Nat) : sK (setK σ c t) c' = if c' = c then t else sK σ c' := rfl
theorem sF_setF (σ : cd_S) (d o f : Nat) (t : Int32 × Option Nat × Option Nat) (d' o' f' : Nat) : sF (setF σ d o f t) d' o' f' = if d' = d ∧ o' = o ∧ f' = f then t else sF σ d' o' f' := rfl
theorem sS_setS (σ : cd_S) (d i : Nat) (r : Option Nat) (d' i' : Nat) : sS (setS σ d i r) d' i' = if d' = d ∧ i' = i then r else sS σ d' i' := rfl
theorem sT_setT (σ : cd_S) (d o : Nat) (b : Bool) (d' o' : Nat) : sT (setT σ d o b) d' o' = if d' = d ∧ o' = o then b else sT σ d' o' := rfl
theorem sE_setE (σ : cd_S) (d : Nat) (b : Bool) (d' : Nat) : sE (setE σ d b) d' = if d' = d then b else sE σ d' := rfl
theorem sD_setE0 (σ : cd_S) (d : Nat) (b : Bool)  : sD (setE σ d b)  = sD σ  := rfl
theorem sC_setE0 (σ : cd_S) (d : Nat) (b : Bool)  : sC (setE σ d b)  = sC σ  := rfl
theorem sT_setE0 (σ : cd_S) (d : Nat) (b : Bool) (d9 o9 : Nat) : sT (setE σ d b) d9 o9 = sT σ d9 o9 := rfl
theorem sF_setE0 (σ : cd_S) (d : Nat) (b : Bool) (d9 o9 f9 : Nat) : sF (setE σ d b) d9 o9 f9 = sF σ d9 o9 f9 := rfl
theorem sS_setE0 (σ : cd_S) (d : Nat) (b : Bool) (d9 i9 : Nat) : sS (setE σ d b) d9 i9 = sS σ d9 i9 := rfl
theorem sK_setE0 (σ : cd_S) (d : Nat) (b : Bool) (c9 : Nat) : sK (setE σ d b) c9 = sK σ c9 := rfl
theorem kH_setE0 (σ : cd_S) (d : Nat) (b : Bool) (c9 : Nat) : kH (setE σ d b) c9 = kH σ c9 := rfl
theorem kT_setE0 (σ : cd_S) (d : Nat) (b : Bool) (c9 : Nat) : kT (setE σ d b) c9 = kT σ c9 := rfl
theorem kP_setE0 (σ : cd_S) (d : Nat) (b : Bool) (c9 : Nat) : kP (setE σ d b) c9 = kP σ c9 := rfl
theorem kR_setE0 (σ : cd_S) (d : Nat) (b : Bool) (c9 : Nat) : kR (setE σ d b) c9 = kR σ c9 := rfl
theorem kU_setE0 (σ : cd_S) (d : Nat) (b : Bool) (c9 : Nat) : kU (setE σ d b) c9 = kU σ c9 := rfl
theorem kV_setE0 (σ : cd_S) (d : Nat) (b : Bool) (c9 : Nat) : kV (setE σ d b) c9 = kV σ c9 := rfl
theorem kX_setE0 (σ : cd_S) (d : Nat) (b : Bool) (c9 : Nat) : kX (setE σ d b) c9 = kX σ c9 := rfl
theorem sD_setT0 (σ : cd_S) (d o : Nat) (b : Bool)  : sD (setT σ d o b)  = sD σ  := rfl
theorem sC_setT0 (σ : cd_S) (d o : Nat) (b : Bool)  : sC (setT σ d o b)  = sC σ  := rfl
theorem sE_setT0 (σ : cd_S) (d o : Nat) (b : Bool) (d9 : Nat) : sE (setT σ d o b) d9 = sE σ d9 := rfl
theorem sF_setT0 (σ : cd_S) (d o : Nat) (b : Bool) (d9 o9 f9 : Nat) : sF (setT σ d o b) d9 o9 f9 = sF σ d9 o9 f9 := rfl
theorem sS_setT0 (σ : cd_S) (d o : Nat) (b : Bool) (d9 i9 : Nat) : sS (setT σ d o b) d9 i9 = sS σ d9 i9 := rfl
theorem sK_setT0 (σ : cd_S) (d o : Nat) (b : Bool) (c9 : Nat) : sK (setT σ d o b) c9 = sK σ c9 := rfl
theorem kH_setT0 (σ : cd_S) (d o : Nat) (b : Bool) (c9 : Nat) : kH (setT σ d o b) c9 = kH σ c9 := rfl
theorem kT_setT0 (σ : cd_S) (d o : Nat) (b : Bool) (c9 : Nat) : kT (setT σ d o b) c9 = kT σ c9 := rfl
theorem kP_setT0 (σ : cd_S) (d o : Nat) (b : Bool) (c9 : Nat) : kP (setT σ d o b) c9 = kP σ c9 := rfl
theorem kR_setT0 (σ : cd_S) (d o : Nat) (b : Bool) (c9 : Nat) : kR (setT σ d o b) c9 = kR σ c9 := rfl
theorem kU_setT0 (σ : cd_S) (d o : Nat) (b : Bool) (c9 : Nat) : kU (setT σ d o b) c9 = kU σ c9 := rfl
theorem kV_setT0 (σ : cd_S) (d o : Nat) (b : Bool) (c9 : Nat) : kV (setT σ d o b) c9 = kV σ c9 := rfl
theorem kX_setT0 (σ : cd_S) (d o : Nat) (b : Bool) (c9 : Nat) : kX (setT σ d o b) c9 = kX σ c9 := rfl
theorem sD_setF0 (σ : cd_S) (d o f : Nat) (t : Int32 × Option Nat × Option Nat)  : sD (setF σ d o f t)  = sD σ  := rfl
theorem sC_setF0 (σ : cd_S) (d o f : Nat) (t : Int32 × Option Nat × Option Nat)  : sC (setF σ d o f t)  = sC σ  := rfl
theorem sE_setF0 (σ : cd_S) (d o f : Nat) (t : Int32 × Option Nat × Option Nat) (d9 : Nat) : sE (setF σ d o f t) d9 = sE σ d9 := rfl
theorem sT_setF0 (σ : cd_S) (d o f : Nat) (t : Int32 × Option Nat × Option Nat) (d9 o9 : Nat) : sT (setF σ d o f t) d9 o9 = sT σ d9 o9 := rfl
theorem sS_setF0 (σ : cd_S) (d o f : Nat) (t : Int32 × Option Nat × Option Nat) (d9 i9 : Nat) : sS (setF σ d o f t) d9 i9 = sS σ d9 i9 := rfl
theorem sK_setF0 (σ : cd_S) (d o f : Nat) (t : Int32 × Option Nat × Option Nat) (c9 : Nat) : sK (setF σ d o f t) c9 = sK σ c9 := rfl
theorem kH_setF0 (σ : cd_S) (d o f : Nat) (t : Int32 × Option Nat × Option Nat) (c9 : Nat) : kH (setF σ d o f t) c9 = kH σ c9 := rfl
theorem kT_setF0 (σ : cd_S) (d o f : Nat) (t : Int32 × Option Nat × Option Nat) (c9 : Nat) : kT (setF σ d o f t) c9 = kT σ c9 := rfl
theorem kP_setF0 (σ : cd_S) (d o f : Nat) (t : Int32 × Option Nat × Option Nat) (c9 : Nat) : kP (setF σ d o f t) c9 = kP σ c9 := rfl
theorem kR_setF0 (σ : cd_S) (d o f : Nat) (t : Int32 × Option Nat × Option Nat) (c9 : Nat) : kR (setF σ d o f t) c9 = kR σ c9 := rfl
theorem kU_setF0 (σ : cd_S) (d o f : Nat) (t : Int32 × Option Nat × Option Nat) (c9 : Nat) : kU (setF σ d o f t) c9 = kU σ c9 := rfl
theorem kV_setF0 (σ : cd_S) (d o f : Nat) (t : Int32 × Option Nat × Option Nat) (c9 : Nat) : kV (setF σ d o f t) c9 = kV σ c9 := rfl
theorem kX_setF0 (σ : cd_S) (d o f : Nat) (t : Int32 × Option Nat × Option Nat) (c9 : Nat) : kX (setF σ d o f t) c9 = kX σ c9 := rfl
theorem sD_setS0 (σ : cd_S) (d i : Nat) (r : Option Nat)  : sD (setS σ d i r)  = sD σ  := rfl
theorem sC_setS0 (σ : cd_S) (d i : Nat) (r : Option Nat)  : sC (setS σ d i r)  = sC σ  := rfl
theorem sE_setS0 (σ : cd_S) (d i : Nat) (r : Option Nat) (d9 : Nat) : sE (setS σ d i r) d9 = sE σ d9 := rfl
theorem sT_setS0 (σ : cd_S) (d i : Nat) (r : Option Nat) (d9 o9 : Nat) : sT (setS σ d i r) d9 o9 = sT σ d9 o9 := rfl
theorem sF_setS0 (σ : cd_S) (d i : Nat) (r : Option Nat) (d9 o9 f9 : Nat) : sF (setS σ d i r) d9 o9 f9 = sF σ d9 o9 f9 := rfl
theorem sK_setS0 (σ : cd_S) (d i : Nat) (r : Option Nat) (c9 : Nat) : sK (setS σ d i r) c9 = sK σ c9 := rfl
theorem kH_setS0 (σ : cd_S) (d i : Nat) (r : Option Nat) (c9 : Nat) : kH (setS σ d i r) c9 = kH σ c9 := rfl
theorem kT_setS0 (σ : cd_S) (d i : Nat) (r : Option Nat) (c9 : Nat) : kT (setS σ d i r) c9 = kT σ c9 := rfl
theorem kP_setS0 (σ : cd_S) (d i : Nat) (r : Option Nat) (c9 : Nat) : kP (setS σ d i r) c9 = kP σ c9 := rfl
theorem kR_setS0 (σ : cd_S) (d i : Nat) (r : Option Nat) (c9 : Nat) : kR (setS σ d i r) c9 = kR σ c9 := rfl
theorem kU_setS0 (σ : cd_S) (d i : Nat) (r : Option Nat) (c9 : Nat) : kU (setS σ d i r) c9 = kU σ c9 := rfl
theorem kV_setS0 (σ : cd_S) (d i : Nat) (r : Option Nat) (c9 : Nat) : kV (setS σ d i r) c9 = kV σ c9 := rfl
theorem kX_setS0 (σ : cd_S) (d i : Nat) (r : Option Nat) (c9 : Nat) : kX (setS σ d i r) c9 = kX σ c9 := rfl
theorem sD_setK0 (σ : cd_S) (c : Nat) (t : Nat × Nat × Option Nat × Int32 × Int32 × Bool × Bool)  : sD (setK σ c t)  = sD σ  := rfl
theorem sC_setK0 (σ : cd_S) (c : Nat) (t : Nat × Nat × Option Nat × Int32 × Int32 × Bool × Bool)  : sC (setK σ c t)  = sC σ  := rfl
theorem sE_setK0 (σ : cd_S) (c : Nat) (t : Nat × Nat × Option Nat × Int32 × Int32 × Bool × Bool) (d9 : Nat) : sE (setK σ c t) d9 = sE σ d9 := rfl
theorem sT_setK0 (σ : cd_S) (c : Nat) (t : Nat × Nat × Option Nat × Int32 × Int32 × Bool × Bool) (d9 o9 : Nat) : sT (setK σ c t) d9 o9 = sT σ d9 o9 := rfl
theorem sF_setK0 (σ : cd_S) (c : Nat) (t : Nat × Nat × Option Nat × Int32 × Int32 × Bool × Bool) (d9 o9 f9 : Nat) : sF (setK σ c t) d9 o9 f9 = sF σ d9 o9 f9 := rfl
theorem sS_setK0 (σ : cd_S) (c : Nat) (t : Nat × Nat × Option Nat × Int32 × Int32 × Bool × Bool) (d9 i9 : Nat) : sS (setK σ c t) d9 i9 = sS σ d9 i9 := rfl
section Upd
variable {w : cd_Wd} {x : Nat} {A : cd_A} {σ : cd_S}
/-- a number that the state doesn't speak of -/
theorem rep_keepI (h : cd_Rep w x A σ) {t a j : Nat} {v : Int32} (ht : t ∉ [1, 3, 32, 64, 96, 97, 129, 131, 132, 133, 134]) : cd_Rep (cd_wI w t a j v) x A σ := by
  have e : ∀ t' a' j', t' ∈ [1, 3, 32, 64, 96, 97, 129, 131, 132, 133, 134] → cd_I (cd_wI w t a j v) t' a' j' = cd_I w t' a' j' := fun t' a' j' h' => by
    rw [I_wI, if_neg]
    rintro ⟨rfl, -⟩
    exact ht h'
  obtain ⟨h1, h2, h3, h4, h5, h6, h7, h8⟩ := h
  refine ⟨?_, fun d hd => ?_, fun d o hd ho => ?_, fun d o f hd ho hf => ?_, h5, fun c hc => ?_, h7, h8⟩
  · simp only [rp_x, kd_wI, ln_wI, O_wI] at h1 ⊢
    rw [e 1 _ _ (by decide), e 3 _ _ (by decide)]
    exact h1
  · have := h2 d hd
    simp only [kd_wI, ln_wI, O_wI]
    rw [e 32 _ _ (by decide)]
    exact this
  · have := h3 d o hd ho
    simp only [kd_wI, ln_wI, O_wI]
    rw [e 64 _ _ (by decide)]
    exact this
  · have := h4 d o f hd ho hf
    simp only [kd_wI, O_wI]
    rw [e 96 _ _ (by decide), e 97 _ _ (by decide)]
    exact this
  · have := h6 c hc
    simp only [kd_wI, O_wI]
    rw [e 129 _ _ (by decide), e 131 _ _ (by decide), e 132 _ _ (by decide), e 133 _ _ (by decide), e 134 _ _ (by decide)]
    exact this
theorem rep_keepO (h : cd_Rep w x A σ) {t a j : Nat} {v : Option Nat} (ht : t ∉ [0, 2, 4, 161, 162, 163, 1003, 33, 34, 1004, 65, 1005, 98, 1006, 128, 130]) : cd_Rep (cd_wO w t a j v) x A σ := by
  have e : ∀ t' a' j', t' ∈ [0, 2, 4, 161, 162, 163, 1003, 33, 34, 1004, 65, 1005, 98, 1006, 128, 130] → cd_O (cd_wO w t a j v) t' a' j' = cd_O w t' a' j' := fun t' a' j' h' => by
    rw [O_wO, if_neg]
    rintro ⟨rfl, -⟩
    exact ht h'
  obtain ⟨h1, h2, h3, h4, h5, h6, h7, h8⟩ := h
  refine ⟨?_, fun d hd => ?_, fun d o hd ho => ?_, fun d o f hd ho hf => ?_, fun d i hd hi => ?_, fun c hc => ?_, h7, h8⟩
  · simp only [rp_x, kd_wO, ln_wO, I_wO] at h1 ⊢
    rw [e 0 _ _ (by decide), e 2 _ _ (by decide), e 4 _ _ (by decide), e 161 _ _ (by decide), e 162 _ _ (by decide), e 163 _ _ (by decide)]
    exact h1
  · have := h2 d hd
    simp only [kd_wO, ln_wO, I_wO]
    rw [e 1003 _ _ (by decide), e 33 _ _ (by decide), e 34 _ _ (by decide)]
    exact this
  · have := h3 d o hd ho
    simp only [kd_wO, ln_wO, I_wO]
    rw [e 1004 _ _ (by decide), e 65 _ _ (by decide)]
    exact this
  · have := h4 d o f hd ho hf
    simp only [kd_wO, I_wO]
    rw [e 1005 _ _ (by decide), e 98 _ _ (by decide)]
    exact this
  · have := h5 d i hd hi
    rw [e 1006 _ _ (by decide)]
    exact this
  · have := h6 c hc
    simp only [kd_wO, I_wO]
    rw [e 1006 _ _ (by decide), e 128 _ _ (by decide), e 130 _ _ (by decide)]
    exact this
/-- a field: its int, its link, its capability -/
theorem rep_F (h : cd_Rep w x A σ) {d o f : Nat} (hd : d < sD σ) (ho : o < 12) (hf : f < 3) {v : Int32} {lk cp : Option Nat} (hlk : ∀ t, lk = some t → t < 12) (hcp : ∀ c, cp = some c → c < sC σ) :
    cd_Rep (cd_wO (cd_wI (cd_wI w 96 (A 6 d o f) 0 v) 97 (A 6 d o f) 0 (cd_l lk)) 98 (A 6 d o f) 0 (cp.map (fun c => A 8 c 0 0))) x A (setF σ d o f (v, lk, cp)) := by
  obtain ⟨h1, h2, h3, h4, h5, h6, h7, h8⟩ := h
  refine ⟨?_, fun d' hd' => ?_, fun d' o' hd' ho' => ?_, fun d' o' f' hd' ho' hf' => ?_, fun d' i hd' hi => ?_, fun c hc => ?_, h7, ?_⟩
  · simpa [sD_setF0, sC_setF0, sE_setF0, sT_setF0, sS_setF0, sK_setF0, kH_setF0, kT_setF0, kP_setF0, kR_setF0, kU_setF0, kV_setF0, kX_setF0, rp_x, kd_wI, ln_wI, O_wI, I_wI, kd_wO, ln_wO, O_wO, I_wO] using h1
  · simpa [sD_setF0, sC_setF0, sE_setF0, sT_setF0, sS_setF0, sK_setF0, kH_setF0, kT_setF0, kP_setF0, kR_setF0, kU_setF0, kV_setF0, kX_setF0, kd_wI, ln_wI, O_wI, I_wI, kd_wO, ln_wO, O_wO, I_wO] using h2 d' hd'
  · simpa [sD_setF0, sC_setF0, sE_setF0, sT_setF0, sS_setF0, sK_setF0, kH_setF0, kT_setF0, kP_setF0, kR_setF0, kU_setF0, kV_setF0, kX_setF0, kd_wI, ln_wI, O_wI, I_wI, kd_wO, ln_wO, O_wO, I_wO] using h3 d' o' hd' ho'
  · have q := h4 d' o' f' hd' ho' hf'
    by_cases e : d' = d ∧ o' = o ∧ f' = f
    · obtain ⟨rfl, rfl, rfl⟩ := e
      simpa [sD_setF0, sC_setF0, sE_setF0, sT_setF0, sS_setF0, sK_setF0, kH_setF0, kT_setF0, kP_setF0, kR_setF0, kU_setF0, kV_setF0, kX_setF0, kd_wI, ln_wI, O_wI, I_wI, kd_wO, ln_wO, O_wO, I_wO, sF_setF] using ⟨q.1, q.2.1⟩
    · have hne : ¬ A 6 d' o' f' = A 6 d o f := fun z => e (h7 6 d' o' f' 6 d o f ⟨hd', ho', hf'⟩ ⟨hd, ho, hf⟩ z).2
      simpa [sD_setF0, sC_setF0, sE_setF0, sT_setF0, sS_setF0, sK_setF0, kH_setF0, kT_setF0, kP_setF0, kR_setF0, kU_setF0, kV_setF0, kX_setF0, kd_wI, ln_wI, O_wI, I_wI, kd_wO, ln_wO, O_wO, I_wO, sF_setF, hne, e] using q
  · simpa [sD_setF0, sC_setF0, sE_setF0, sT_setF0, sS_setF0, sK_setF0, kH_setF0, kT_setF0, kP_setF0, kR_setF0, kU_setF0, kV_setF0, kX_setF0, kd_wI, ln_wI, O_wI, I_wI, kd_wO, ln_wO, O_wO, I_wO] using h5 d' i hd' hi
  · simpa [sD_setF0, sC_setF0, sE_setF0, sT_setF0, sS_setF0, sK_setF0, kH_setF0, kT_setF0, kP_setF0, kR_setF0, kU_setF0, kV_setF0, kX_setF0, kd_wI, ln_wI, O_wI, I_wI, kd_wO, ln_wO, O_wO, I_wO] using h6 c hc
  · obtain ⟨g1, g2, g3, g4⟩ := h8
    refine ⟨g1, fun d' o' f' c hd' ho' hf' hq => ?_, fun d' o' f' t hd' ho' hf' hq => ?_, g4⟩
    · rw [sF_setF] at hq
      split at hq
      · exact hcp c hq
      · exact g2 d' o' f' c hd' ho' hf' hq
    · rw [sF_setF] at hq
      split at hq
      · exact hlk t hq
      · exact g3 d' o' f' t hd' ho' hf' hq
theorem rep_T (h : cd_Rep w x A σ) {d o : Nat} (hd : d < sD σ) (ho : o < 12) (b : Bool) : cd_Rep (cd_wI w 64 (A 4 d o 0) 0 (cd_b b)) x A (setT σ d o b) := by
  obtain ⟨h1, h2, h3, h4, h5, h6, h7, h8⟩ := h
  refine ⟨?_, fun d' hd' => ?_, fun d' o' hd' ho' => ?_, fun d' o' f' hd' ho' hf' => ?_, fun d' i hd' hi => ?_, fun c hc => ?_, h7, h8⟩
  · simpa [sD_setT0, sC_setT0, sE_setT0, sF_setT0, sS_setT0, sK_setT0, kH_setT0, kT_setT0, kP_setT0, kR_setT0, kU_setT0, kV_setT0, kX_setT0, rp_x, kd_wI, ln_wI, O_wI, I_wI] using h1
  · simpa [sD_setT0, sC_setT0, sE_setT0, sF_setT0, sS_setT0, sK_setT0, kH_setT0, kT_setT0, kP_setT0, kR_setT0, kU_setT0, kV_setT0, kX_setT0, kd_wI, ln_wI, O_wI, I_wI] using h2 d' hd'
  · have q := h3 d' o' hd' ho'
    by_cases e : d' = d ∧ o' = o
    · obtain ⟨rfl, rfl⟩ := e
      simpa [sD_setT0, sC_setT0, sE_setT0, sF_setT0, sS_setT0, sK_setT0, kH_setT0, kT_setT0, kP_setT0, kR_setT0, kU_setT0, kV_setT0, kX_setT0, kd_wI, ln_wI, O_wI, I_wI, sT_setT] using ⟨q.1, q.2.1, q.2.2.2⟩
    · have hne : ¬ A 4 d' o' 0 = A 4 d o 0 := fun z => e (by have := h7 4 d' o' 0 4 d o 0 ⟨hd', ho', rfl⟩ ⟨hd, ho, rfl⟩ z; exact ⟨this.2.1, this.2.2.1⟩)
      simpa [sD_setT0, sC_setT0, sE_setT0, sF_setT0, sS_setT0, sK_setT0, kH_setT0, kT_setT0, kP_setT0, kR_setT0, kU_setT0, kV_setT0, kX_setT0, kd_wI, ln_wI, O_wI, I_wI, sT_setT, hne, e] using q
  · simpa [sD_setT0, sC_setT0, sE_setT0, sF_setT0, sS_setT0, sK_setT0, kH_setT0, kT_setT0, kP_setT0, kR_setT0, kU_setT0, kV_setT0, kX_setT0, kd_wI, ln_wI, O_wI, I_wI] using h4 d' o' f' hd' ho' hf'
  · simpa [sD_setT0, sC_setT0, sE_setT0, sF_setT0, sS_setT0, sK_setT0, kH_setT0, kT_setT0, kP_setT0, kR_setT0, kU_setT0, kV_setT0, kX_setT0, kd_wI, ln_wI, O_wI, I_wI] using h5 d' i hd' hi
  · simpa [sD_setT0, sC_setT0, sE_setT0, sF_setT0, sS_setT0, sK_setT0, kH_setT0, kT_setT0, kP_setT0, kR_setT0, kU_setT0, kV_setT0, kX_setT0, kd_wI, ln_wI, O_wI, I_wI] using h6 c hc
theorem rep_E (h : cd_Rep w x A σ) {d : Nat} (hd : d < sD σ) (b : Bool) : cd_Rep (cd_wI w 32 (A 1 d 0 0) 0 (cd_b b)) x A (setE σ d b) := by
  obtain ⟨h1, h2, h3, h4, h5, h6, h7, h8⟩ := h
  refine ⟨?_, fun d' hd' => ?_, fun d' o' hd' ho' => ?_, fun d' o' f' hd' ho' hf' => ?_, fun d' i hd' hi => ?_, fun c hc => ?_, h7, h8⟩
  · simpa [sD_setE0, sC_setE0, sT_setE0, sF_setE0, sS_setE0, sK_setE0, kH_setE0, kT_setE0, kP_setE0, kR_setE0, kU_setE0, kV_setE0, kX_setE0, rp_x, kd_wI, ln_wI, O_wI, I_wI] using h1
  · have q := h2 d' hd'
    by_cases e : d' = d
    · subst e
      simpa [sD_setE0, sC_setE0, sT_setE0, sF_setE0, sS_setE0, sK_setE0, kH_setE0, kT_setE0, kP_setE0, kR_setE0, kU_setE0, kV_setE0, kX_setE0, kd_wI, ln_wI, O_wI, I_wI, sE_setE] using ⟨q.1, q.2.1, q.2.2.1, q.2.2.2.1, q.2.2.2.2.1, q.2.2.2.2.2.1, q.2.2.2.2.2.2.1, q.2.2.2.2.2.2.2.1⟩
    · have hne : ¬ A 1 d' 0 0 = A 1 d 0 0 := fun z => e (h7 1 d' 0 0 1 d 0 0 ⟨hd', rfl, rfl⟩ ⟨hd, rfl, rfl⟩ z).2.1
      simpa [sD_setE0, sC_setE0, sT_setE0, sF_setE0, sS_setE0, sK_setE0, kH_setE0, kT_setE0, kP_setE0, kR_setE0, kU_setE0, kV_setE0, kX_setE0, kd_wI, ln_wI, O_wI, I_wI, sE_setE, hne, e] using q
  · simpa [sD_setE0, sC_setE0, sT_setE0, sF_setE0, sS_setE0, sK_setE0, kH_setE0, kT_setE0, kP_setE0, kR_setE0, kU_setE0, kV_setE0, kX_setE0, kd_wI, ln_wI, O_wI, I_wI] using h3 d' o' hd' ho'
  · simpa [sD_setE0, sC_setE0, sT_setE0, sF_setE0, sS_setE0, sK_setE0, kH_setE0, kT_setE0, kP_setE0, kR_setE0, kU_setE0, kV_setE0, kX_setE0, kd_wI, ln_wI, O_wI, I_wI] using h4 d' o' f' hd' ho' hf'
  · simpa [sD_setE0, sC_setE0, sT_setE0, sF_setE0, sS_setE0, sK_setE0, kH_setE0, kT_setE0, kP_setE0, kR_setE0, kU_setE0, kV_setE0, kX_setE0, kd_wI, ln_wI, O_wI, I_wI] using h5 d' i hd' hi
  · simpa [sD_setE0, sC_setE0, sT_setE0, sF_setE0, sS_setE0, sK_setE0, kH_setE0, kT_setE0, kP_setE0, kR_setE0, kU_setE0, kV_setE0, kX_setE0, kd_wI, ln_wI, O_wI, I_wI] using h6 c hc
theorem rep_S (h : cd_Rep w x A σ) {d i : Nat} (hd : d < sD σ) (hi : i < 8) {r : Option Nat} (hr : ∀ c, r = some c → c < sC σ) : cd_Rep (cd_wO w 1006 (A 3 d 0 0) i (r.map (fun c => A 8 c 0 0))) x A (setS σ d i r) := by
  obtain ⟨h1, h2, h3, h4, h5, h6, h7, h8⟩ := h
  refine ⟨?_, fun d' hd' => ?_, fun d' o' hd' ho' => ?_, fun d' o' f' hd' ho' hf' => ?_, fun d' i' hd' hi' => ?_, fun c hc => ?_, h7, ?_⟩
  · simpa [sD_setS0, sC_setS0, sE_setS0, sT_setS0, sF_setS0, sK_setS0, kH_setS0, kT_setS0, kP_setS0, kR_setS0, kU_setS0, kV_setS0, kX_setS0, rp_x, kd_wO, ln_wO, O_wO, I_wO] using h1
  · simpa [sD_setS0, sC_setS0, sE_setS0, sT_setS0, sF_setS0, sK_setS0, kH_setS0, kT_setS0, kP_setS0, kR_setS0, kU_setS0, kV_setS0, kX_setS0, kd_wO, ln_wO, O_wO, I_wO] using h2 d' hd'
  · simpa [sD_setS0, sC_setS0, sE_setS0, sT_setS0, sF_setS0, sK_setS0, kH_setS0, kT_setS0, kP_setS0, kR_setS0, kU_setS0, kV_setS0, kX_setS0, kd_wO, ln_wO, O_wO, I_wO] using h3 d' o' hd' ho'
  · simpa [sD_setS0, sC_setS0, sE_setS0, sT_setS0, sF_setS0, sK_setS0, kH_setS0, kT_setS0, kP_setS0, kR_setS0, kU_setS0, kV_setS0, kX_setS0, kd_wO, ln_wO, O_wO, I_wO] using h4 d' o' f' hd' ho' hf'
  · have q := h5 d' i' hd' hi'
    by_cases e : d' = d
    · subst e
      by_cases e2 : i' = i
      · subst e2
        simp [sD_setS0, sC_setS0, sE_setS0, sT_setS0, sF_setS0, sK_setS0, kH_setS0, kT_setS0, kP_setS0, kR_setS0, kU_setS0, kV_setS0, kX_setS0, O_wO, sS_setS]
      · simpa [sD_setS0, sC_setS0, sE_setS0, sT_setS0, sF_setS0, sK_setS0, kH_setS0, kT_setS0, kP_setS0, kR_setS0, kU_setS0, kV_setS0, kX_setS0, O_wO, sS_setS, e2] using q
    · have hne : ¬ A 3 d' 0 0 = A 3 d 0 0 := fun z => e (h7 3 d' 0 0 3 d 0 0 ⟨hd', rfl, rfl⟩ ⟨hd, rfl, rfl⟩ z).2.1
      simpa [sD_setS0, sC_setS0, sE_setS0, sT_setS0, sF_setS0, sK_setS0, kH_setS0, kT_setS0, kP_setS0, kR_setS0, kU_setS0, kV_setS0, kX_setS0, O_wO, sS_setS, hne, e] using q
  · have hne : ¬ A 7 0 0 0 = A 3 d 0 0 := fun z => by have := (h7 7 0 0 0 3 d 0 0 ⟨rfl, rfl, rfl⟩ ⟨hd, rfl, rfl⟩ z).1; omega
    simpa [sD_setS0, sC_setS0, sE_setS0, sT_setS0, sF_setS0, sK_setS0, kH_setS0, kT_setS0, kP_setS0, kR_setS0, kU_setS0, kV_setS0, kX_setS0, kd_wO, ln_wO, O_wO, I_wO, hne] using h6 c hc
  · obtain ⟨g1, g2, g3, g4⟩ := h8
    refine ⟨fun d' i' c hd' hi' hq => ?_, g2, g3, g4⟩
    rw [sS_setS] at hq
    split at hq
    · exact hr c hq
    · exact g1 d' i' c hd' hi' hq
theorem kH_setK (σ : cd_S) (c : Nat) (t : Nat × Nat × Option Nat × Int32 × Int32 × Bool × Bool) (c' : Nat) : kH (setK σ c t) c' = if c' = c then t.1 else kH σ c' := by rw [kH, sK_setK]; split <;> rfl
theorem kT_setK (σ : cd_S) (c : Nat) (t : Nat × Nat × Option Nat × Int32 × Int32 × Bool × Bool) (c' : Nat) : kT (setK σ c t) c' = if c' = c then t.2.1 else kT σ c' := by rw [kT, sK_setK]; split <;> rfl
theorem kP_setK (σ : cd_S) (c : Nat) (t : Nat × Nat × Option Nat × Int32 × Int32 × Bool × Bool) (c' : Nat) : kP (setK σ c t) c' = if c' = c then t.2.2.1 else kP σ c' := by rw [kP, sK_setK]; split <;> rfl
theorem kR_setK (σ : cd_S) (c : Nat) (t : Nat × Nat × Option Nat × Int32 × Int32 × Bool × Bool) (c' : Nat) : kR (setK σ c t) c' = if c' = c then t.2.2.2.1 else kR σ c' := by rw [kR, sK_setK]; split <;> rfl
theorem kU_setK (σ : cd_S) (c : Nat) (t : Nat × Nat × Option Nat × Int32 × Int32 × Bool × Bool) (c' : Nat) : kU (setK σ c t) c' = if c' = c then t.2.2.2.2.1 else kU σ c' := by rw [kU, sK_setK]; split <;> rfl
theorem kV_setK (σ : cd_S) (c : Nat) (t : Nat × Nat × Option Nat × Int32 × Int32 × Bool × Bool) (c' : Nat) : kV (setK σ c t) c' = if c' = c then t.2.2.2.2.2.1 else kV σ c' := by rw [kV, sK_setK]; split <;> rfl
theorem kX_setK (σ : cd_S) (c : Nat) (t : Nat × Nat × Option Nat × Int32 × Int32 × Bool × Bool) (c' : Nat) : kX (setK σ c t) c' = if c' = c then t.2.2.2.2.2.2 else kX σ c' := by rw [kX, sK_setK]; split <;> rfl
/-- one number of a capability: its uses (132), revoked (133), dead (134) -/
theorem rep_K (h : cd_Rep w x A σ) {c : Nat} (hc : c < sC σ) (t : Nat) (v : Int32) (u : Int32) (bv bx : Bool) (ht : (t = 132 ∧ v = u ∧ bv = kV σ c ∧ bx = kX σ c) ∨ (t = 133 ∧ u = kU σ c ∧ v = cd_b bv ∧ bx = kX σ c) ∨ (t = 134 ∧ u = kU σ c ∧ bv = kV σ c ∧ v = cd_b bx)) :
    cd_Rep (cd_wI w t (A 8 c 0 0) 0 v) x A (setK σ c (kH σ c, kT σ c, kP σ c, kR σ c, u, bv, bx)) := by
  obtain ⟨h1, h2, h3, h4, h5, h6, h7, h8⟩ := h
  have hw : rp_w (setK σ c (kH σ c, kT σ c, kP σ c, kR σ c, u, bv, bx)) := by
    obtain ⟨g1, g2, g3, g4⟩ := h8
    refine ⟨g1, g2, g3, fun c' hc' => ?_⟩
    have q := g4 c' hc'
    rw [kH_setK, kT_setK, kP_setK]
    by_cases e : c' = c
    · subst e; simpa [sD_setK0] using q
    · simpa [sD_setK0, sC_setK0, sE_setK0, sT_setK0, sF_setK0, sS_setK0, e] using q
  have hcc : ∀ c', c' < sC σ → c' ≠ c → ¬ A 8 c' 0 0 = A 8 c 0 0 := fun c' hc' e z => e (h7 8 c' 0 0 8 c 0 0 ⟨hc', rfl, rfl⟩ ⟨hc, rfl, rfl⟩ z).2.1
  rcases ht with ⟨rfl, rfl, rfl, rfl⟩ | ⟨rfl, rfl, rfl, rfl⟩ | ⟨rfl, rfl, rfl, rfl⟩ <;>
  (refine ⟨?_, fun d' hd' => ?_, fun d' o' hd' ho' => ?_, fun d' o' f' hd' ho' hf' => ?_, fun d' i hd' hi => ?_, fun c' hc' => ?_, h7, hw⟩
   · simpa [sD_setK0, sC_setK0, sE_setK0, sT_setK0, sF_setK0, sS_setK0, rp_x, kd_wI, ln_wI, O_wI, I_wI] using h1
   · simpa [sD_setK0, sC_setK0, sE_setK0, sT_setK0, sF_setK0, sS_setK0, kd_wI, ln_wI, O_wI, I_wI] using h2 d' hd'
   · simpa [sD_setK0, sC_setK0, sE_setK0, sT_setK0, sF_setK0, sS_setK0, kd_wI, ln_wI, O_wI, I_wI] using h3 d' o' hd' ho'
   · simpa [sD_setK0, sC_setK0, sE_setK0, sT_setK0, sF_setK0, sS_setK0, kd_wI, ln_wI, O_wI, I_wI] using h4 d' o' f' hd' ho' hf'
   · simpa [sD_setK0, sC_setK0, sE_setK0, sT_setK0, sF_setK0, sS_setK0, kd_wI, ln_wI, O_wI, I_wI] using h5 d' i hd' hi
   · have q := h6 c' hc'
     by_cases e : c' = c
     · subst e
       obtain ⟨q1, q2, q3, q4, q5, q6, q7, q8, q9⟩ := q
       simp [sD_setK0, sC_setK0, sE_setK0, sT_setK0, sF_setK0, sS_setK0, kd_wI, ln_wI, O_wI, I_wI, kH_setK, kT_setK, kP_setK, kR_setK, kU_setK, kV_setK, kX_setK, *]
     · have hne := hcc c' hc' e
       simpa [sD_setK0, sC_setK0, sE_setK0, sT_setK0, sF_setK0, sS_setK0, kd_wI, ln_wI, O_wI, I_wI, kH_setK, kT_setK, kP_setK, kR_setK, kU_setK, kV_setK, kX_setK, hne, e] using q)
theorem rep_U (h : cd_Rep w x A σ) {c : Nat} (hc : c < sC σ) (u : Int32) : cd_Rep (cd_wI w 132 (A 8 c 0 0) 0 u) x A (setU σ c u) := rep_K h hc 132 u u _ _ (Or.inl ⟨rfl, rfl, rfl, rfl⟩)
theorem rep_V (h : cd_Rep w x A σ) {c : Nat} (hc : c < sC σ) (b : Bool) : cd_Rep (cd_wI w 133 (A 8 c 0 0) 0 (cd_b b)) x A (setV σ c b) := rep_K h hc 133 _ _ b _ (Or.inr (Or.inl ⟨rfl, rfl, rfl, rfl⟩))
theorem rep_X (h : cd_Rep w x A σ) {c : Nat} (hc : c < sC σ) (b : Bool) : cd_Rep (cd_wI w 134 (A 8 c 0 0) 0 (cd_b b)) x A (setX σ c b) := rep_K h hc 134 _ _ _ b (Or.inr (Or.inr ⟨rfl, rfl, rfl, rfl⟩))
end Upd
end
section
section RowsN
variable {G : cd_Gl} {l : Launch} {C : cd_Cx} {Q : State → Prop} {k n : Nat} {w : cd_Wd} {pc : Nat} {lv : List (Option Value)} {rest : List Value} {y : MethodName} {cc : ByteArray} {nL : Nat} {ret : Option FieldType} {ex : List (Nat × Nat × Nat × Nat)} {R : Room}
theorem g_ifnullS (O : cd_Ok G y cc nL ret ex R C) {a : Nat} {off : Int} (hd : decode cc pc = .ok (.ifnull off, 3)) (h : cd_Go G l C Q k n w (pc + 3) lv rest) : cd_Go G l C Q k n w pc lv (.ref a :: rest) :=
  fun H locs ls a b c => lv_ifnull O.1 O.2.1 hd (h H locs ls a b c)
theorem g_ifnullN (O : cd_Ok G y cc nL ret ex R C) {off : Int} (tgt : Nat) (hd : decode cc pc = .ok (.ifnull off, 3)) (ht : (pc : Int) + off = (tgt : Int)) (h : cd_Go G l C Q k n w tgt lv rest) : cd_Go G l C Q k n w pc lv (va_rf none :: rest) :=
  fun H locs ls a b c => lv_ifnullN O.1 O.2.1 hd ht (h H locs ls a b c)
theorem g_ifnonnullS (O : cd_Ok G y cc nL ret ex R C) {a : Nat} {off : Int} (tgt : Nat) (hd : decode cc pc = .ok (.ifnonnull off, 3)) (ht : (pc : Int) + off = (tgt : Int)) (h : cd_Go G l C Q k n w tgt lv rest) : cd_Go G l C Q k n w pc lv (.ref a :: rest) :=
  fun H locs ls a b c => lv_ifnonnull O.1 O.2.1 hd ht (h H locs ls a b c)
theorem g_ifnonnullN (O : cd_Ok G y cc nL ret ex R C) {off : Int} (hd : decode cc pc = .ok (.ifnonnull off, 3)) (h : cd_Go G l C Q k n w (pc + 3) lv rest) : cd_Go G l C Q k n w pc lv (va_rf none :: rest) :=
  fun H locs ls a b c => lv_ifnonnullN O.1 O.2.1 hd (h H locs ls a b c)
end RowsN
/-! ### the parents of a capability, itself first -/
def ancF (σ : cd_S) : Nat → Nat → List Nat
  | 0, _ => []
  | n + 1, c => c :: (match kP σ c with
    | some p => ancF σ n p
    | none => [])
def anc (σ : cd_S) (c : Nat) : List Nat := ancF σ (c + 1) c
theorem ancF_succ {σ : cd_S} (hp : ∀ c, c < sC σ → ∀ q, kP σ c = some q → q < c) : ∀ n c, c < n → c < sC σ → ancF σ n c = ancF σ (n + 1) c := by
  intro n
  induction n with
  | zero => intro c h; omega
  | succ n ih =>
    intro c hn hc
    rw [ancF, ancF]
    congr 1
    cases hk : kP σ c with
    | none => rfl
    | some p =>
      have hpc := hp c hc p hk
      exact ih p (by omega) (by omega)
theorem ancF_eq {σ : cd_S} (hp : ∀ c, c < sC σ → ∀ q, kP σ c = some q → q < c) {c : Nat} (hc : c < sC σ) : ∀ n, c < n → ancF σ n c = anc σ c := by
  intro n
  induction n with
  | zero => intro h; omega
  | succ n ih =>
    intro h
    by_cases e : c = n
    · subst e; rfl
    · rw [← ancF_succ hp n c (by omega) hc]
      exact ih (by omega)
theorem anc_eq {σ : cd_S} (hp : ∀ c, c < sC σ → ∀ q, kP σ c = some q → q < c) {c : Nat} (hc : c < sC σ) : anc σ c = c :: (match kP σ c with
    | some p => anc σ p
    | none => []) := by
  rw [anc, ancF]
  congr 1
  cases hk : kP σ c with
  | none => rfl
  | some p =>
    have hpc := hp c hc p hk
    exact ancF_eq hp (Nat.lt_trans hpc hc) c hpc
/-- has it, or one of its parents, no uses left -/
def upB (σ : cd_S) (c : Nat) : Bool := (anc σ c).any (fun k => decide (kU σ k = 0))
theorem upB_eq {σ : cd_S} (hp : ∀ c, c < sC σ → ∀ q, kP σ c = some q → q < c) {c : Nat} (hc : c < sC σ) : upB σ c = (decide (kU σ c = 0) || (match kP σ c with
    | some p => upB σ p
    | none => false)) := by
  rw [upB, anc_eq hp hc, List.any_cons]
  congr 1
  cases hk : kP σ c with
  | none => rfl
  | some p => rfl
end
section
def isD (σ : cd_S) (d : Int32) : Bool := decide (¬ d < 0) && decide (¬ nI (sD σ) ≤ d)
def isSl (s : Int32) : Bool := decide (¬ s < 0) && decide (¬ (8 : Int32) ≤ s)
def isFi (f : Int32) : Bool := decide (¬ f < 0) && decide (¬ (3 : Int32) ≤ f)
theorem isD_of {σ : cd_S} {d : Int32} (hs : sD σ ≤ 6) (h : isD σ d = true) : ∃ j : Nat, j < sD σ ∧ d = nI j := by
  simp only [isD, Bool.and_eq_true, decide_eq_true_eq] at h
  exact ix_of (by omega) h.1 h.2
theorem isSl_of {d : Int32} (h : isSl d = true) : ∃ j : Nat, j < 8 ∧ d = nI j := by
  simp only [isSl, Bool.and_eq_true, decide_eq_true_eq] at h
  exact ix_of (n := 8) (by omega) h.1 h.2
theorem isFi_of {d : Int32} (h : isFi d = true) : ∃ j : Nat, j < 3 ∧ d = nI j := by
  simp only [isFi, Bool.and_eq_true, decide_eq_true_eq] at h
  exact ix_of (n := 3) (by omega) h.1 h.2
theorem hasO_of {σ : cd_S} {d : Nat} {o : Int32} (h : hasO σ d o = true) : ∃ j : Nat, j < 12 ∧ o = nI j ∧ sT σ d j = true := by
  simp only [hasO, Bool.and_eq_true, decide_eq_true_eq] at h
  obtain ⟨j, hj, rfl⟩ := ix_of (n := 12) (by omega) h.1.1 h.1.2
  rw [nI_clamp (by omega)] at h
  exact ⟨j, hj, rfl, h.2⟩
theorem isD_nI {σ : cd_S} {j : Nat} (h : j < sD σ) (hs : sD σ ≤ 6) : isD σ (nI j) = true := by
  simp [isD, nI_pos (show j < 2 ^ 31 by omega), nI_ge h (show sD σ < 2 ^ 31 by omega)]
theorem isSl_nI {j : Nat} (h : j < 8) : isSl (nI j) = true := by
  have h1 : ¬ (8 : Int32) ≤ nI j := nI_ge (b := 8) h (by omega)
  simp [isSl, nI_pos (show j < 2 ^ 31 by omega), h1]
theorem cl_nI {j : Nat} (h : j < 2 ^ 31) : (nI j).toNatClampNeg = j := nI_clamp h
set_option maxHeartbeats 4000000 in
set_option maxRecDepth 100000 in
theorem ct_Do_hasObject {G : cd_Gl} {l : Launch} {w : cd_Wd} {Q : cd_Out → cd_Wd → Prop} {x : Nat} {A : cd_A} {σ : cd_S} (hR : cd_Rep w x A σ) {d : Nat} {o : Int32} (hd : d < sD σ) (h : Q (.inl (some (.int (cd_b (hasO σ d o))))) w) : cd_Ct G l y_Do_hasObject 0 0 0 [.ref (A 1 d 0 0), .int o] w Q := by
  refine cd_ofW cw_Do_hasObject (by simp [Value.category, cat_rf]) (Nat.le_of_ble_eq_true rfl) fun C O => ?_
  change cd_Go G l C _ 0 0 w 0 [some (.ref (A 1 d 0 0)), some (.int o)] []
  refine g_iload_n O 1 d_Do_hasObject_0 rfl rfl ?_
  refine g_if_lt O 26 d_Do_hasObject_1 (by decide) (fun c1 => ?_) (fun c1 => ?_)
  · rw [hasO_neg (Or.inl c1)] at h
    refine g_iconst (v := 0) O d_Do_hasObject_26 (by decide) ?_
    refine g_zret O d_Do_hasObject_27 (Or.inl rfl) (Nat.le_of_ble_eq_true rfl) (Nat.le_of_ble_eq_true rfl) ?_
    exact h
  · refine g_iload_n O 1 d_Do_hasObject_4 rfl rfl ?_
    refine g_bipush (v := 12) O d_Do_hasObject_5 (by decide) ?_
    refine g_icmp_ge O 26 d_Do_hasObject_7 (by decide) (fun c7 => ?_) (fun c7 => ?_)
    · rw [hasO_neg (Or.inr c7)] at h
      refine g_iconst (v := 0) O d_Do_hasObject_26 (by decide) ?_
      refine g_zret O d_Do_hasObject_27 (Or.inl rfl) (Nat.le_of_ble_eq_true rfl) (Nat.le_of_ble_eq_true rfl) ?_
      exact h
    · obtain ⟨j, hj, rfl⟩ := ix_of (n := 12) (by omega) c1 c7
      rw [hasO_nI hj] at h
      have q := hR.o hd hj
      first | refine g_aload_n O 0 d_Do_hasObject_10 rfl rfl ?_ | refine g_aload_nq O 0 d_Do_hasObject_10 rfl rfl ?_
      refine g_getS O c_Do 1 (by decide) rfl (hR.d hd).2.1 lk_Do_11 d_Do_hasObject_11 (hR.d hd).2.2.1 ?_
      refine g_iload_n O 1 d_Do_hasObject_14 rfl rfl ?_
      refine g_aaldS O 4 rfl rfl (hR.d hd).2.2.2.1 (by rw [(hR.d hd).2.2.2.2.1]; exact ix_in hj (by omega)) d_Do_hasObject_15 (by rw [nI_clamp (by omega)]; exact q.1) ?_
      refine g_getV O c_Ob 0 (by decide) rfl q.2.1 lk_Do_24 d_Do_hasObject_16 q.2.2.1 ?_
      refine g_if_eq O 26 d_Do_hasObject_19 (by decide) (fun c19 => ?_) (fun c19 => ?_)
      · rw [cd_b_eq.mp c19] at h
        refine g_iconst (v := 0) O d_Do_hasObject_26 (by decide) ?_
        refine g_zret O d_Do_hasObject_27 (by first | exact Or.inl rfl | exact Or.inr rfl | assumption) (Nat.le_of_ble_eq_true rfl) (Nat.le_of_ble_eq_true rfl) ?_
        exact h
      · rw [cd_b_ne.mp c19] at h
        refine g_iconst (v := 1) O d_Do_hasObject_22 (by decide) ?_
        refine g_goto O 27 d_Do_hasObject_23 (by decide) ?_
        refine g_zret O d_Do_hasObject_27 (by first | exact Or.inl rfl | exact Or.inr rfl | assumption) (Nat.le_of_ble_eq_true rfl) (Nat.le_of_ble_eq_true rfl) ?_
        exact h
def alw (σ : cd_S) (c : Nat) (r : Int32) : Bool := decide ((r &&& (kR σ c ^^^ (-1))) = 0)
set_option maxHeartbeats 4000000 in
set_option maxRecDepth 100000 in
theorem ct_Ca_allows {G : cd_Gl} {l : Launch} {w : cd_Wd} {Q : cd_Out → cd_Wd → Prop} {x : Nat} {A : cd_A} {σ : cd_S} (hR : cd_Rep w x A σ) {c : Nat} {r : Int32} (hc : c < sC σ) (h : Q (.inl (some (.int (cd_b (alw σ c r))))) w) : cd_Ct G l y_Ca_allows 0 0 0 [.ref (A 8 c 0 0), .int r] w Q := by
  refine cd_ofW cw_Ca_allows (by simp [Value.category, cat_rf]) (Nat.le_of_ble_eq_true rfl) fun C O => ?_
  change cd_Go G l C _ 0 0 w 0 [some (.ref (A 8 c 0 0)), some (.int r)] []
  refine g_iload_n O 1 d_Ca_allows_0 rfl rfl ?_
  first | refine g_aload_n O 0 d_Ca_allows_1 rfl rfl ?_ | refine g_aload_nq O 0 d_Ca_allows_1 rfl rfl ?_
  refine g_getV O c_Ca 3 (by decide) rfl (hR.c hc).2.1 lk_Ca_21 d_Ca_allows_2 (hR.c hc).2.2.2.2.2.1 ?_
  refine g_iconst (v := -1) O d_Ca_allows_5 (by decide) ?_
  refine g_ixor O d_Ca_allows_6 ?_
  refine g_iand O d_Ca_allows_7 ?_
  refine g_if_ne O 15 d_Ca_allows_8 (by decide) (fun c8 => ?_) (fun c8 => ?_)
  · rw [show alw σ c r = false from decide_eq_false c8] at h
    refine g_iconst (v := 0) O d_Ca_allows_15 (by decide) ?_
    refine g_zret O d_Ca_allows_16 (by first | exact Or.inl rfl | exact Or.inr rfl | assumption) (Nat.le_of_ble_eq_true rfl) (Nat.le_of_ble_eq_true rfl) ?_
    exact h
  · rw [show alw σ c r = true from decide_eq_true c8] at h
    refine g_iconst (v := 1) O d_Ca_allows_11 (by decide) ?_
    refine g_goto O 16 d_Ca_allows_12 (by decide) ?_
    refine g_zret O d_Ca_allows_16 (by first | exact Or.inl rfl | exact Or.inr rfl | assumption) (Nat.le_of_ble_eq_true rfl) (Nat.le_of_ble_eq_true rfl) ?_
    exact h
def die (σ : cd_S) (c : Nat) : Bool := kV σ c || sE σ (kH σ c) || !sT σ (kH σ c) (kT σ c) || (match kP σ c with
  | some p => kX σ p
  | none => false)
set_option maxHeartbeats 4000000 in
set_option maxRecDepth 100000 in
theorem ct_Ca_mustDie {G : cd_Gl} {l : Launch} {w : cd_Wd} {Q : cd_Out → cd_Wd → Prop} {x : Nat} {A : cd_A} {σ : cd_S} (hR : cd_Rep w x A σ) {c : Nat} (hc : c < sC σ) (h : Q (.inl (some (.int (cd_b (die σ c))))) w) : cd_Ct G l y_Ca_mustDie 1 0 0 [.ref (A 8 c 0 0)] w Q := by
  refine cd_ofW cw_Ca_mustDie (by simp [Value.category, cat_rf]) (Nat.le_of_ble_eq_true rfl) fun C O => ?_
  change cd_Go G l C _ 0 0 w 0 [some (.ref (A 8 c 0 0))] []
  have hw := hR.wf.2.2.2 c hc
  first | refine g_aload_n O 0 d_Ca_mustDie_0 rfl rfl ?_ | refine g_aload_nq O 0 d_Ca_mustDie_0 rfl rfl ?_
  refine g_getV O c_Ca 5 (by decide) rfl (hR.c hc).2.1 lk_Ca_27 d_Ca_mustDie_1 (hR.c hc).2.2.2.2.2.2.2.1 ?_
  refine g_if_ne O 48 d_Ca_mustDie_4 (by decide) (fun c4 => ?_) (fun c4 => ?_)
  · have e : die σ c = true := by simp_all [die, cd_b_ne, cd_b_eq]
    rw [e] at h
    refine g_iconst (v := 1) O d_Ca_mustDie_48 (by decide) ?_
    refine g_goto O 53 d_Ca_mustDie_49 (by decide) ?_
    refine g_zret O d_Ca_mustDie_53 (by first | exact Or.inl rfl | exact Or.inr rfl | assumption) (Nat.le_of_ble_eq_true rfl) (Nat.le_of_ble_eq_true rfl) ?_
    exact h
  · first | refine g_aload_n O 0 d_Ca_mustDie_7 rfl rfl ?_ | refine g_aload_nq O 0 d_Ca_mustDie_7 rfl rfl ?_
    refine g_getS O c_Ca 0 (by decide) rfl (hR.c hc).2.1 lk_Ca_7 d_Ca_mustDie_8 (hR.c hc).2.2.1 ?_
    refine g_getV O c_Do 0 (by decide) rfl (hR.d hw.1).2.1 lk_Ca_31 d_Ca_mustDie_11 (hR.d hw.1).2.2.2.2.2.2.2.2 ?_
    refine g_if_ne O 48 d_Ca_mustDie_14 (by decide) (fun c14 => ?_) (fun c14 => ?_)
    · have e : die σ c = true := by simp_all [die, cd_b_ne, cd_b_eq]
      rw [e] at h
      refine g_iconst (v := 1) O d_Ca_mustDie_48 (by decide) ?_
      refine g_goto O 53 d_Ca_mustDie_49 (by decide) ?_
      refine g_zret O d_Ca_mustDie_53 (by first | exact Or.inl rfl | exact Or.inr rfl | assumption) (Nat.le_of_ble_eq_true rfl) (Nat.le_of_ble_eq_true rfl) ?_
      exact h
    · first | refine g_aload_n O 0 d_Ca_mustDie_17 rfl rfl ?_ | refine g_aload_nq O 0 d_Ca_mustDie_17 rfl rfl ?_
      refine g_getS O c_Ca 0 (by decide) rfl (hR.c hc).2.1 lk_Ca_7 d_Ca_mustDie_18 (hR.c hc).2.2.1 ?_
      first | refine g_aload_n O 0 d_Ca_mustDie_21 rfl rfl ?_ | refine g_aload_nq O 0 d_Ca_mustDie_21 rfl rfl ?_
      refine g_getV O c_Ca 1 (by decide) rfl (hR.c hc).2.1 lk_Ca_13 d_Ca_mustDie_22 (hR.c hc).2.2.2.1 ?_
      refine g_callv (N := 0) (mc := 0) (ms := 0) (av := [_]) O (Or.inl ⟨_, _, cw_Do_hasObject⟩) pl_Do (ci := 1) (q := q_Do) rfl (hR.d hw.1).2.1 ml_Ca_36 im_Do_hasObject se_Do_hasObject rfl d_Ca_mustDie_25 rfl (Nat.le_of_ble_eq_true rfl) (Nat.le_of_ble_eq_true rfl) (Nat.le_of_ble_eq_true rfl) (Nat.le_of_ble_eq_true rfl) ?_
      refine ct_Do_hasObject hR hw.1 ?_
      change cd_Go _ _ _ _ _ _ _ _ _ _
      refine g_if_eq O 48 d_Ca_mustDie_28 (by decide) (fun c28 => ?_) (fun c28 => ?_)
      · rw [hasO_nI hw.2.1] at c28
        have e : die σ c = true := by simp_all [die, cd_b_ne, cd_b_eq]
        rw [e] at h
        refine g_iconst (v := 1) O d_Ca_mustDie_48 (by decide) ?_
        refine g_goto O 53 d_Ca_mustDie_49 (by decide) ?_
        refine g_zret O d_Ca_mustDie_53 (by first | exact Or.inl rfl | exact Or.inr rfl | assumption) (Nat.le_of_ble_eq_true rfl) (Nat.le_of_ble_eq_true rfl) ?_
        exact h
      · rw [hasO_nI hw.2.1] at c28
        first | refine g_aload_n O 0 d_Ca_mustDie_31 rfl rfl ?_ | refine g_aload_nq O 0 d_Ca_mustDie_31 rfl rfl ?_
        refine g_getOV O c_Ca 2 (by decide) rfl (hR.c hc).2.1 lk_Ca_17 d_Ca_mustDie_32 (hR.c hc).2.2.2.2.1 ?_
        refine g_ifnull O 52 d_Ca_mustDie_35 (by decide) (fun c35 => ?_) (fun x35 c35 => ?_)
        · have hp : kP σ c = none := by cases hz : kP σ c with
            | none => rfl
            | some p => rw [hz] at c35; cases c35
          have e : die σ c = false := by simp_all [die, cd_b_ne, cd_b_eq]
          rw [e] at h
          refine g_iconst (v := 0) O d_Ca_mustDie_52 (by decide) ?_
          refine g_zret O d_Ca_mustDie_53 (by first | exact Or.inl rfl | exact Or.inr rfl | assumption) (Nat.le_of_ble_eq_true rfl) (Nat.le_of_ble_eq_true rfl) ?_
          exact h
        · obtain ⟨p, hp⟩ : ∃ p, kP σ c = some p := by cases hz : kP σ c with
            | none => rw [hz] at c35; cases c35
            | some p => exact ⟨p, rfl⟩
          have hpc : p < sC σ := Nat.lt_trans (hw.2.2 p hp) hc
          first | refine g_aload_n O 0 d_Ca_mustDie_38 rfl rfl ?_ | refine g_aload_nq O 0 d_Ca_mustDie_38 rfl rfl ?_
          refine g_getS O c_Ca 2 (by decide) rfl (hR.c hc).2.1 lk_Ca_17 d_Ca_mustDie_39 (by rw [show cd_O w (32 * 4 + 2) (A 8 c 0 0) 0 = _ from (hR.c hc).2.2.2.2.1, hp]; rfl) ?_
          refine g_getV O c_Ca 6 (by decide) rfl (hR.c hpc).2.1 lk_Ca_40 d_Ca_mustDie_42 (hR.c hpc).2.2.2.2.2.2.2.2 ?_
          refine g_if_eq O 52 d_Ca_mustDie_45 (by decide) (fun c45 => ?_) (fun c45 => ?_)
          · have e : die σ c = false := by simp_all [die, cd_b_ne, cd_b_eq]
            rw [e] at h
            refine g_iconst (v := 0) O d_Ca_mustDie_52 (by decide) ?_
            refine g_zret O d_Ca_mustDie_53 (by first | exact Or.inl rfl | exact Or.inr rfl | assumption) (Nat.le_of_ble_eq_true rfl) (Nat.le_of_ble_eq_true rfl) ?_
            exact h
          · have e : die σ c = true := by simp_all [die, cd_b_ne, cd_b_eq]
            rw [e] at h
            refine g_iconst (v := 1) O d_Ca_mustDie_48 (by decide) ?_
            refine g_goto O 53 d_Ca_mustDie_49 (by decide) ?_
            refine g_zret O d_Ca_mustDie_53 (by first | exact Or.inl rfl | exact Or.inr rfl | assumption) (Nat.le_of_ble_eq_true rfl) (Nat.le_of_ble_eq_true rfl) ?_
            exact h
set_option maxHeartbeats 4000000 in
set_option maxRecDepth 100000 in
theorem ct_Cd_isDomain {G : cd_Gl} {l : Launch} {w : cd_Wd} {Q : cd_Out → cd_Wd → Prop} {x : Nat} {A : cd_A} {σ : cd_S} (hR : cd_Rep w x A σ) {d : Int32} (h : Q (.inl (some (.int (cd_b (isD σ d))))) w) : cd_Ct G l y_Cd_isDomain 0 0 0 [.ref x, .int d] w Q := by
  refine cd_ofW cw_Cd_isDomain (by simp [Value.category, cat_rf]) (Nat.le_of_ble_eq_true rfl) fun C O => ?_
  change cd_Go G l C _ 0 0 w 0 [some (.ref x), some (.int d)] []
  refine g_iload_n O 1 d_Cd_isDomain_0 rfl rfl ?_
  refine g_if_lt O 16 d_Cd_isDomain_1 (by decide) (fun c1 => ?_) (fun c1 => ?_)
  · refine g_iconst (v := 0) O d_Cd_isDomain_16 (by decide) ?_
    refine g_zret O d_Cd_isDomain_17 (by first | exact Or.inl rfl | exact Or.inr rfl | assumption) (Nat.le_of_ble_eq_true rfl) (Nat.le_of_ble_eq_true rfl) ?_
    first | (rw [show isD σ d = true from by simp [isD, *]] at h; exact h) | (rw [show isD σ d = false from by simp [isD, *]] at h; exact h)
  · refine g_iload_n O 1 d_Cd_isDomain_4 rfl rfl ?_
    first | refine g_aload_n O 0 d_Cd_isDomain_5 rfl rfl ?_ | refine g_aload_nq O 0 d_Cd_isDomain_5 rfl rfl ?_
    refine g_getV O c_Cd 1 (by decide) rfl hR.top.1 lk_Cd_28 d_Cd_isDomain_6 hR.top.2.2.2.2.2.2.2.2.2.2.2.2.2.2.2.2.2.2.1 ?_
    refine g_icmp_ge O 16 d_Cd_isDomain_9 (by decide) (fun c9 => ?_) (fun c9 => ?_)
    · refine g_iconst (v := 0) O d_Cd_isDomain_16 (by decide) ?_
      refine g_zret O d_Cd_isDomain_17 (by first | exact Or.inl rfl | exact Or.inr rfl | assumption) (Nat.le_of_ble_eq_true rfl) (Nat.le_of_ble_eq_true rfl) ?_
      first | (rw [show isD σ d = true from by simp [isD, *]] at h; exact h) | (rw [show isD σ d = false from by simp [isD, *]] at h; exact h)
    · refine g_iconst (v := 1) O d_Cd_isDomain_12 (by decide) ?_
      refine g_goto O 17 d_Cd_isDomain_13 (by decide) ?_
      refine g_zret O d_Cd_isDomain_17 (by first | exact Or.inl rfl | exact Or.inr rfl | assumption) (Nat.le_of_ble_eq_true rfl) (Nat.le_of_ble_eq_true rfl) ?_
      first | (rw [show isD σ d = true from by simp [isD, *]] at h; exact h) | (rw [show isD σ d = false from by simp [isD, *]] at h; exact h)
set_option maxHeartbeats 4000000 in
set_option maxRecDepth 100000 in
theorem ct_Cd_isSlot {G : cd_Gl} {l : Launch} {w : cd_Wd} {Q : cd_Out → cd_Wd → Prop} {s : Int32} (h : Q (.inl (some (.int (cd_b (isSl s))))) w) : cd_Ct G l y_Cd_isSlot 0 0 0 [.int s] w Q := by
  refine cd_ofW cw_Cd_isSlot (by simp [Value.category, cat_rf]) (Nat.le_of_ble_eq_true rfl) fun C O => ?_
  change cd_Go G l C _ 0 0 w 0 [some (.int s)] []
  refine g_iload_n O 0 d_Cd_isSlot_0 rfl rfl ?_
  refine g_if_lt O 14 d_Cd_isSlot_1 (by decide) (fun c1 => ?_) (fun c1 => ?_)
  · refine g_iconst (v := 0) O d_Cd_isSlot_14 (by decide) ?_
    refine g_zret O d_Cd_isSlot_15 (by first | exact Or.inl rfl | exact Or.inr rfl | assumption) (Nat.le_of_ble_eq_true rfl) (Nat.le_of_ble_eq_true rfl) ?_
    first | (rw [show isSl s = true from by simp [isSl, *]] at h; exact h) | (rw [show isSl s = false from by simp [isSl, *]] at h; exact h)
  · refine g_iload_n O 0 d_Cd_isSlot_4 rfl rfl ?_
    refine g_bipush (v := 8) O d_Cd_isSlot_5 (by decide) ?_
    refine g_icmp_ge O 14 d_Cd_isSlot_7 (by decide) (fun c7 => ?_) (fun c7 => ?_)
    · refine g_iconst (v := 0) O d_Cd_isSlot_14 (by decide) ?_
      refine g_zret O d_Cd_isSlot_15 (by first | exact Or.inl rfl | exact Or.inr rfl | assumption) (Nat.le_of_ble_eq_true rfl) (Nat.le_of_ble_eq_true rfl) ?_
      first | (rw [show isSl s = true from by simp [isSl, *]] at h; exact h) | (rw [show isSl s = false from by simp [isSl, *]] at h; exact h)
    · refine g_iconst (v := 1) O d_Cd_isSlot_10 (by decide) ?_
      refine g_goto O 15 d_Cd_isSlot_11 (by decide) ?_
      refine g_zret O d_Cd_isSlot_15 (by first | exact Or.inl rfl | exact Or.inr rfl | assumption) (Nat.le_of_ble_eq_true rfl) (Nat.le_of_ble_eq_true rfl) ?_
      first | (rw [show isSl s = true from by simp [isSl, *]] at h; exact h) | (rw [show isSl s = false from by simp [isSl, *]] at h; exact h)
end
section
def isFd (σ : cd_S) (d o f : Int32) : Bool := isD σ d && hasO σ d.toNatClampNeg o && isFi f
theorem isFd_of {σ : cd_S} {d o f : Int32} (hs : sD σ ≤ 6) (h : isFd σ d o f = true) : ∃ j i k : Nat, j < sD σ ∧ d = nI j ∧ i < 12 ∧ o = nI i ∧ sT σ j i = true ∧ k < 3 ∧ f = nI k := by
  simp only [isFd, Bool.and_eq_true] at h
  obtain ⟨j, hj, rfl⟩ := isD_of hs h.1.1
  rw [nI_clamp (by omega)] at h
  obtain ⟨i, hi, rfl, ht⟩ := hasO_of h.1.2
  obtain ⟨k, hk, rfl⟩ := isFi_of h.2
  exact ⟨j, i, k, hj, rfl, hi, rfl, ht, hk, rfl⟩
set_option maxHeartbeats 4000000 in
set_option maxRecDepth 100000 in
theorem ct_Cd_isField {G : cd_Gl} {l : Launch} {w : cd_Wd} {Q : cd_Out → cd_Wd → Prop} {x : Nat} {A : cd_A} {σ : cd_S} (hR : cd_Rep w x A σ) {d o f : Int32} (h : Q (.inl (some (.int (cd_b (isFd σ d o f))))) w) : cd_Ct G l y_Cd_isField 1 0 0 [.ref x, .int d, .int o, .int f] w Q := by
  refine cd_ofW cw_Cd_isField (by simp [Value.category, cat_rf]) (Nat.le_of_ble_eq_true rfl) fun C O => ?_
  change cd_Go G l C _ 0 0 w 0 [some (.ref x), some (.int d), some (.int o), some (.int f)] []
  first | refine g_aload_n O 0 d_Cd_isField_0 rfl rfl ?_ | refine g_aload_nq O 0 d_Cd_isField_0 rfl rfl ?_
  refine g_iload_n O 1 d_Cd_isField_1 rfl rfl ?_
  refine g_callv (N := 0) (mc := 0) (ms := 0) (av := [_]) O (Or.inl ⟨_, _, cw_Cd_isDomain⟩) pl_Cd (ci := 0) (q := q_Cd) rfl hR.top.1 ml_Cd_221 im_Cd_isDomain se_Cd_isDomain rfl d_Cd_isField_2 rfl (Nat.le_of_ble_eq_true rfl) (Nat.le_of_ble_eq_true rfl) (Nat.le_of_ble_eq_true rfl) (Nat.le_of_ble_eq_true rfl) ?_
  refine ct_Cd_isDomain hR ?_
  change cd_Go _ _ _ _ _ _ _ _ _ _
  refine g_if_eq O 34 d_Cd_isField_5 (by decide) (fun c5 => ?_) (fun c5 => ?_)
  · rw [show isFd σ d o f = false from by simp [isFd, cd_b_eq.mp c5]] at h
    refine g_iconst (v := 0) O d_Cd_isField_34 (by decide) ?_
    refine g_zret O d_Cd_isField_35 (by first | exact Or.inl rfl | exact Or.inr rfl | assumption) (Nat.le_of_ble_eq_true rfl) (Nat.le_of_ble_eq_true rfl) ?_
    exact h
  · obtain ⟨j, hj, rfl⟩ := isD_of hR.top.2.2.2.2.2.2.2.2.2.2.2.2.2.2.2.2.2.2.2.1 (cd_b_ne.mp c5)
    have hcl : (nI j).toNatClampNeg = j := nI_clamp (by have := hR.top.2.2.2.2.2.2.2.2.2.2.2.2.2.2.2.2.2.2.2.1; omega)
    first | refine g_aload_n O 0 d_Cd_isField_8 rfl rfl ?_ | refine g_aload_nq O 0 d_Cd_isField_8 rfl rfl ?_
    refine g_getS O c_Cd 0 (by decide) rfl hR.top.1 lk_Cd_11 d_Cd_isField_9 hR.top.2.1 ?_
    refine g_iload_n O 1 d_Cd_isField_12 rfl rfl ?_
    refine g_aaldS O 3 rfl rfl hR.top.2.2.1 (by rw [hR.top.2.2.2.1]; exact ix_in (Nat.lt_of_lt_of_le hj hR.top.2.2.2.2.2.2.2.2.2.2.2.2.2.2.2.2.2.2.2.1) (by omega)) d_Cd_isField_13 (by rw [hcl]; exact (hR.d hj).1) ?_
    refine g_iload_n O 2 d_Cd_isField_14 rfl rfl ?_
    refine g_callv (N := 0) (mc := 0) (ms := 0) (av := [_]) O (Or.inl ⟨_, _, cw_Do_hasObject⟩) pl_Do (ci := 1) (q := q_Do) rfl (hR.d hj).2.1 ml_Cd_69 im_Do_hasObject se_Do_hasObject rfl d_Cd_isField_15 rfl (Nat.le_of_ble_eq_true rfl) (Nat.le_of_ble_eq_true rfl) (Nat.le_of_ble_eq_true rfl) (Nat.le_of_ble_eq_true rfl) ?_
    refine ct_Do_hasObject hR hj ?_
    change cd_Go _ _ _ _ _ _ _ _ _ _
    refine g_if_eq O 34 d_Cd_isField_18 (by decide) (fun c18 => ?_) (fun c18 => ?_)
    · rw [show isFd σ (nI j) o f = false from by simp [isFd, hcl, cd_b_eq.mp c18]] at h
      refine g_iconst (v := 0) O d_Cd_isField_34 (by decide) ?_
      refine g_zret O d_Cd_isField_35 (by first | exact Or.inl rfl | exact Or.inr rfl | assumption) (Nat.le_of_ble_eq_true rfl) (Nat.le_of_ble_eq_true rfl) ?_
      exact h
    · refine g_iload_n O 3 d_Cd_isField_21 rfl rfl ?_
      refine g_if_lt O 34 d_Cd_isField_22 (by decide) (fun c22 => ?_) (fun c22 => ?_)
      · rw [show isFd σ (nI j) o f = false from by simp [isFd, isFi, c22]] at h
        refine g_iconst (v := 0) O d_Cd_isField_34 (by decide) ?_
        refine g_zret O d_Cd_isField_35 (by first | exact Or.inl rfl | exact Or.inr rfl | assumption) (Nat.le_of_ble_eq_true rfl) (Nat.le_of_ble_eq_true rfl) ?_
        exact h
      · refine g_iload_n O 3 d_Cd_isField_25 rfl rfl ?_
        refine g_iconst (v := 3) O d_Cd_isField_26 (by decide) ?_
        refine g_icmp_ge O 34 d_Cd_isField_27 (by decide) (fun c27 => ?_) (fun c27 => ?_)
        · rw [show isFd σ (nI j) o f = false from by simp [isFd, isFi, c27]] at h
          refine g_iconst (v := 0) O d_Cd_isField_34 (by decide) ?_
          refine g_zret O d_Cd_isField_35 (by first | exact Or.inl rfl | exact Or.inr rfl | assumption) (Nat.le_of_ble_eq_true rfl) (Nat.le_of_ble_eq_true rfl) ?_
          exact h
        · rw [show isFd σ (nI j) o f = true from by simp [isFd, isFi, c27, c22, hcl, cd_b_ne.mp c18, cd_b_ne.mp c5]] at h
          refine g_iconst (v := 1) O d_Cd_isField_30 (by decide) ?_
          refine g_goto O 35 d_Cd_isField_31 (by decide) ?_
          refine g_zret O d_Cd_isField_35 (by first | exact Or.inl rfl | exact Or.inr rfl | assumption) (Nat.le_of_ble_eq_true rfl) (Nat.le_of_ble_eq_true rfl) ?_
          exact h
set_option maxHeartbeats 4000000 in
set_option maxRecDepth 100000 in
theorem ct_Cd_requireSlot {G : cd_Gl} {l : Launch} {w : cd_Wd} {Q : cd_Out → cd_Wd → Prop} (hst : l.stackTraces = false) {x : Nat} {A : cd_A} {σ : cd_S} (hR : cd_Rep w x A σ) {d s : Int32} (h1 : (isD σ d && isSl s) = false → Q (.inr 1) w) (h2 : isD σ d = true → isSl s = true → Q (.inl none) w) : cd_Ct G l y_Cd_requireSlot 6 1 6 [.ref x, .int d, .int s] w Q := by
  refine cd_ofW cw_Cd_requireSlot (by simp [Value.category, cat_rf]) (Nat.le_of_ble_eq_true rfl) fun C O => ?_
  change cd_Go G l C _ 0 0 w 0 [some (.ref x), some (.int d), some (.int s)] []
  first | refine g_aload_n O 0 d_Cd_requireSlot_0 rfl rfl ?_ | refine g_aload_nq O 0 d_Cd_requireSlot_0 rfl rfl ?_
  refine g_iload_n O 1 d_Cd_requireSlot_1 rfl rfl ?_
  refine g_callv (N := 0) (mc := 0) (ms := 0) (av := [_]) O (Or.inl ⟨_, _, cw_Cd_isDomain⟩) pl_Cd (ci := 0) (q := q_Cd) rfl hR.top.1 ml_Cd_221 im_Cd_isDomain se_Cd_isDomain rfl d_Cd_requireSlot_2 rfl (Nat.le_of_ble_eq_true rfl) (Nat.le_of_ble_eq_true rfl) (Nat.le_of_ble_eq_true rfl) (Nat.le_of_ble_eq_true rfl) ?_
  refine ct_Cd_isDomain hR ?_
  change cd_Go _ _ _ _ _ _ _ _ _ _
  refine g_if_eq O 15 d_Cd_requireSlot_5 (by decide) (fun c5 => ?_) (fun c5 => ?_)
  · have e := h1 (by simp [cd_b_eq.mp c5])
    refine g_throw (E := 1) O hst ew_1 (by decide +kernel) kl_Cd_242 ia_IllegalArgumentException in_IllegalArgumentException ml_Cd_246 ss_Cd_244 d_Cd_requireSlot_15 d_Cd_requireSlot_18 d_Cd_requireSlot_19 d_Cd_requireSlot_21 d_Cd_requireSlot_24 rfl (Nat.le_of_ble_eq_true rfl) (Nat.le_of_ble_eq_true rfl) (Nat.le_of_ble_eq_true rfl) (Nat.le_of_ble_eq_true rfl) (Nat.le_of_ble_eq_true rfl) (Nat.le_of_ble_eq_true rfl) ?_
    exact e
  · refine g_iload_n O 2 d_Cd_requireSlot_8 rfl rfl ?_
    refine g_calls (N := 0) (mc := 0) (ms := 0) (av := [_]) O (Or.inl ⟨_, _, cw_Cd_isSlot⟩) pl_Cd ml_Cd_81 st_Cd_isSlot in_Cd rfl d_Cd_requireSlot_9 rfl (Nat.le_of_ble_eq_true rfl) (Nat.le_of_ble_eq_true rfl) (Nat.le_of_ble_eq_true rfl) (Nat.le_of_ble_eq_true rfl) ?_
    refine ct_Cd_isSlot ?_
    change cd_Go _ _ _ _ _ _ _ _ _ _
    refine g_if_ne O 25 d_Cd_requireSlot_12 (by decide) (fun c12 => ?_) (fun c12 => ?_)
    · have e := h2 (cd_b_ne.mp c5) (cd_b_ne.mp c12)
      refine g_ret O d_Cd_requireSlot_25 (Nat.le_of_ble_eq_true rfl) (Nat.le_of_ble_eq_true rfl) ?_
      exact e
    · have e := h1 (by simp [cd_b_eq.mp c12])
      refine g_throw (E := 1) O hst ew_1 (by decide +kernel) kl_Cd_242 ia_IllegalArgumentException in_IllegalArgumentException ml_Cd_246 ss_Cd_244 d_Cd_requireSlot_15 d_Cd_requireSlot_18 d_Cd_requireSlot_19 d_Cd_requireSlot_21 d_Cd_requireSlot_24 rfl (Nat.le_of_ble_eq_true rfl) (Nat.le_of_ble_eq_true rfl) (Nat.le_of_ble_eq_true rfl) (Nat.le_of_ble_eq_true rfl) (Nat.le_of_ble_eq_true rfl) (Nat.le_of_ble_eq_true rfl) ?_
      exact e
def isGr (r u : Int32) : Bool := decide (¬ r < 0) && decide (¬ (31 : Int32) < r) && decide ((-1 : Int32) ≤ u)
set_option maxHeartbeats 4000000 in
set_option maxRecDepth 100000 in
theorem ct_Cd_requireGrant {G : cd_Gl} {l : Launch} {w : cd_Wd} {Q : cd_Out → cd_Wd → Prop} (hst : l.stackTraces = false) {r u : Int32} (h1 : isGr r u = false → Q (.inr 1) w) (h2 : isGr r u = true → Q (.inl none) w) : cd_Ct G l y_Cd_requireGrant 6 1 6 [.int r, .int u] w Q := by
  refine cd_ofW cw_Cd_requireGrant (by simp [Value.category, cat_rf]) (Nat.le_of_ble_eq_true rfl) fun C O => ?_
  change cd_Go G l C _ 0 0 w 0 [some (.int r), some (.int u)] []
  refine g_iload_n O 0 d_Cd_requireGrant_0 rfl rfl ?_
  refine g_if_lt O 15 d_Cd_requireGrant_1 (by decide) (fun c1 => ?_) (fun c1 => ?_)
  · have e := h1 (by simp [isGr, c1])
    refine g_throw (E := 1) O hst ew_1 (by decide +kernel) kl_Cd_242 ia_IllegalArgumentException in_IllegalArgumentException ml_Cd_246 ss_Cd_247 d_Cd_requireGrant_15 d_Cd_requireGrant_18 d_Cd_requireGrant_19 d_Cd_requireGrant_21 d_Cd_requireGrant_24 rfl (Nat.le_of_ble_eq_true rfl) (Nat.le_of_ble_eq_true rfl) (Nat.le_of_ble_eq_true rfl) (Nat.le_of_ble_eq_true rfl) (Nat.le_of_ble_eq_true rfl) (Nat.le_of_ble_eq_true rfl) ?_
    exact e
  · refine g_iload_n O 0 d_Cd_requireGrant_4 rfl rfl ?_
    refine g_bipush (v := 31) O d_Cd_requireGrant_5 (by decide) ?_
    refine g_icmp_gt O 15 d_Cd_requireGrant_7 (by decide) (fun c7 => ?_) (fun c7 => ?_)
    · have e := h1 (by simp [isGr, c7])
      refine g_throw (E := 1) O hst ew_1 (by decide +kernel) kl_Cd_242 ia_IllegalArgumentException in_IllegalArgumentException ml_Cd_246 ss_Cd_247 d_Cd_requireGrant_15 d_Cd_requireGrant_18 d_Cd_requireGrant_19 d_Cd_requireGrant_21 d_Cd_requireGrant_24 rfl (Nat.le_of_ble_eq_true rfl) (Nat.le_of_ble_eq_true rfl) (Nat.le_of_ble_eq_true rfl) (Nat.le_of_ble_eq_true rfl) (Nat.le_of_ble_eq_true rfl) (Nat.le_of_ble_eq_true rfl) ?_
      exact e
    · refine g_iload_n O 1 d_Cd_requireGrant_10 rfl rfl ?_
      refine g_iconst (v := -1) O d_Cd_requireGrant_11 (by decide) ?_
      refine g_icmp_ge O 25 d_Cd_requireGrant_12 (by decide) (fun c12 => ?_) (fun c12 => ?_)
      · have e := h2 (by simp [isGr, c1, c7, c12])
        refine g_ret O d_Cd_requireGrant_25 (Nat.le_of_ble_eq_true rfl) (Nat.le_of_ble_eq_true rfl) ?_
        exact e
      · have e := h1 (by simp [isGr, c12])
        refine g_throw (E := 1) O hst ew_1 (by decide +kernel) kl_Cd_242 ia_IllegalArgumentException in_IllegalArgumentException ml_Cd_246 ss_Cd_247 d_Cd_requireGrant_15 d_Cd_requireGrant_18 d_Cd_requireGrant_19 d_Cd_requireGrant_21 d_Cd_requireGrant_24 rfl (Nat.le_of_ble_eq_true rfl) (Nat.le_of_ble_eq_true rfl) (Nat.le_of_ble_eq_true rfl) (Nat.le_of_ble_eq_true rfl) (Nat.le_of_ble_eq_true rfl) (Nat.le_of_ble_eq_true rfl) ?_
        exact e
set_option maxHeartbeats 4000000 in
set_option maxRecDepth 100000 in
theorem ct_Cd_requireCapabilityLeft {G : cd_Gl} {l : Launch} {w : cd_Wd} {Q : cd_Out → cd_Wd → Prop} (hst : l.stackTraces = false) {x : Nat} {A : cd_A} {σ : cd_S} (hR : cd_Rep w x A σ) (h1 : 40 ≤ sC σ → Q (.inr 6) w) (h2 : sC σ < 40 → Q (.inl none) w) : cd_Ct G l y_Cd_requireCapabilityLeft 6 1 6 [.ref x] w Q := by
  refine cd_ofW cw_Cd_requireCapabilityLeft (by simp [Value.category, cat_rf]) (Nat.le_of_ble_eq_true rfl) fun C O => ?_
  change cd_Go G l C _ 0 0 w 0 [some (.ref x)] []
  first | refine g_aload_n O 0 d_Cd_requireCapabilityLeft_0 rfl rfl ?_ | refine g_aload_nq O 0 d_Cd_requireCapabilityLeft_0 rfl rfl ?_
  refine g_getV O c_Cd 3 (by decide) rfl hR.top.1 lk_Cd_233 d_Cd_requireCapabilityLeft_1 hR.top.2.2.2.2.2.2.2.2.2.2.2.2.2.2.2.2.2.2.2.2.1 ?_
  refine g_bipush (v := 40) O d_Cd_requireCapabilityLeft_4 (by decide) ?_
  refine g_icmp_lt O 19 d_Cd_requireCapabilityLeft_6 (by decide) (fun c6 => ?_) (fun c6 => ?_)
  · have e := h2 ((nI_ltI (b := 40) (by have := hR.top.2.2.2.2.2.2.2.2.2.2.2.2.2.2.2.2.2.2.2.2.2; omega) (by omega)).mp c6)
    refine g_ret O d_Cd_requireCapabilityLeft_19 (Nat.le_of_ble_eq_true rfl) (Nat.le_of_ble_eq_true rfl) ?_
    exact e
  · have e := h1 (Nat.le_of_not_lt fun z => c6 (nI_lt (b := 40) z (by omega)))
    refine g_throw (E := 6) O hst ew_6 (by decide +kernel) kl_Cd_48 ia_ArithmeticException in_ArithmeticException ml_Cd_52 ss_Cd_249 d_Cd_requireCapabilityLeft_9 d_Cd_requireCapabilityLeft_12 d_Cd_requireCapabilityLeft_13 d_Cd_requireCapabilityLeft_15 d_Cd_requireCapabilityLeft_18 rfl (Nat.le_of_ble_eq_true rfl) (Nat.le_of_ble_eq_true rfl) (Nat.le_of_ble_eq_true rfl) (Nat.le_of_ble_eq_true rfl) (Nat.le_of_ble_eq_true rfl) (Nat.le_of_ble_eq_true rfl) ?_
    exact e
set_option maxHeartbeats 4000000 in
set_option maxRecDepth 100000 in
theorem ct_Cd_livingDomain {G : cd_Gl} {l : Launch} {w : cd_Wd} {Q : cd_Out → cd_Wd → Prop} (hst : l.stackTraces = false) {x : Nat} {A : cd_A} {σ : cd_S} (hR : cd_Rep w x A σ) {d : Int32} (h1 : isD σ d = false → Q (.inr 1) w) (h2 : ∀ j, j < sD σ → d = nI j → sE σ j = true → Q (.inr 2) w) (h3 : ∀ j, j < sD σ → d = nI j → sE σ j = false → Q (.inl (some (.ref (A 1 j 0 0)))) w) : cd_Ct G l y_Cd_livingDomain 6 1 6 [.ref x, .int d] w Q := by
  refine cd_ofW cw_Cd_livingDomain (by simp [Value.category, cat_rf]) (Nat.le_of_ble_eq_true rfl) fun C O => ?_
  change cd_Go G l C _ 0 0 w 0 [some (.ref x), some (.int d)] []
  first | refine g_aload_n O 0 d_Cd_livingDomain_0 rfl rfl ?_ | refine g_aload_nq O 0 d_Cd_livingDomain_0 rfl rfl ?_
  refine g_iload_n O 1 d_Cd_livingDomain_1 rfl rfl ?_
  refine g_callv (N := 0) (mc := 0) (ms := 0) (av := [_]) O (Or.inl ⟨_, _, cw_Cd_isDomain⟩) pl_Cd (ci := 0) (q := q_Cd) rfl hR.top.1 ml_Cd_221 im_Cd_isDomain se_Cd_isDomain rfl d_Cd_livingDomain_2 rfl (Nat.le_of_ble_eq_true rfl) (Nat.le_of_ble_eq_true rfl) (Nat.le_of_ble_eq_true rfl) (Nat.le_of_ble_eq_true rfl) ?_
  refine ct_Cd_isDomain hR ?_
  change cd_Go _ _ _ _ _ _ _ _ _ _
  refine g_if_ne O 18 d_Cd_livingDomain_5 (by decide) (fun c5 => ?_) (fun c5 => ?_)
  · obtain ⟨j, hj, rfl⟩ := isD_of hR.top.2.2.2.2.2.2.2.2.2.2.2.2.2.2.2.2.2.2.2.1 (cd_b_ne.mp c5)
    have hcl : (nI j).toNatClampNeg = j := nI_clamp (by have := hR.top.2.2.2.2.2.2.2.2.2.2.2.2.2.2.2.2.2.2.2.1; omega)
    first | refine g_aload_n O 0 d_Cd_livingDomain_18 rfl rfl ?_ | refine g_aload_nq O 0 d_Cd_livingDomain_18 rfl rfl ?_
    refine g_getS O c_Cd 0 (by decide) rfl hR.top.1 lk_Cd_11 d_Cd_livingDomain_19 hR.top.2.1 ?_
    refine g_iload_n O 1 d_Cd_livingDomain_22 rfl rfl ?_
    refine g_aaldS O 3 rfl rfl hR.top.2.2.1 (by rw [hR.top.2.2.2.1]; exact ix_in (Nat.lt_of_lt_of_le hj hR.top.2.2.2.2.2.2.2.2.2.2.2.2.2.2.2.2.2.2.2.1) (by omega)) d_Cd_livingDomain_23 (by rw [hcl]; exact (hR.d hj).1) ?_
    refine g_getV O c_Do 0 (by decide) rfl (hR.d hj).2.1 lk_Cd_224 d_Cd_livingDomain_24 (hR.d hj).2.2.2.2.2.2.2.2 ?_
    refine g_if_eq O 40 d_Cd_livingDomain_27 (by decide) (fun c27 => ?_) (fun c27 => ?_)
    · have e := h3 j hj rfl (cd_b_eq.mp c27)
      first | refine g_aload_n O 0 d_Cd_livingDomain_40 rfl rfl ?_ | refine g_aload_nq O 0 d_Cd_livingDomain_40 rfl rfl ?_
      refine g_getS O c_Cd 0 (by decide) rfl hR.top.1 lk_Cd_11 d_Cd_livingDomain_41 hR.top.2.1 ?_
      refine g_iload_n O 1 d_Cd_livingDomain_44 rfl rfl ?_
      refine g_aaldS O 3 rfl rfl hR.top.2.2.1 (by rw [hR.top.2.2.2.1]; exact ix_in (Nat.lt_of_lt_of_le hj hR.top.2.2.2.2.2.2.2.2.2.2.2.2.2.2.2.2.2.2.2.1) (by omega)) d_Cd_livingDomain_45 (by rw [hcl]; exact (hR.d hj).1) ?_
      first | refine g_aretS O d_Cd_livingDomain_46 (Nat.le_of_ble_eq_true rfl) (Nat.le_of_ble_eq_true rfl) ?_ | refine g_aretN O d_Cd_livingDomain_46 (Nat.le_of_ble_eq_true rfl) (Nat.le_of_ble_eq_true rfl) ?_
      exact e
    · have e := h2 j hj rfl (cd_b_ne.mp c27)
      refine g_throw (E := 2) O hst ew_2 (by decide +kernel) kl_Cd_32 ia_IllegalStateException in_IllegalStateException ml_Cd_36 ss_Cd_253 d_Cd_livingDomain_30 d_Cd_livingDomain_33 d_Cd_livingDomain_34 d_Cd_livingDomain_36 d_Cd_livingDomain_39 rfl (Nat.le_of_ble_eq_true rfl) (Nat.le_of_ble_eq_true rfl) (Nat.le_of_ble_eq_true rfl) (Nat.le_of_ble_eq_true rfl) (Nat.le_of_ble_eq_true rfl) (Nat.le_of_ble_eq_true rfl) ?_
      exact e
  · have e := h1 (cd_b_eq.mp c5)
    refine g_throw (E := 1) O hst ew_1 (by decide +kernel) kl_Cd_242 ia_IllegalArgumentException in_IllegalArgumentException ml_Cd_246 ss_Cd_251 d_Cd_livingDomain_8 d_Cd_livingDomain_11 d_Cd_livingDomain_12 d_Cd_livingDomain_14 d_Cd_livingDomain_17 rfl (Nat.le_of_ble_eq_true rfl) (Nat.le_of_ble_eq_true rfl) (Nat.le_of_ble_eq_true rfl) (Nat.le_of_ble_eq_true rfl) (Nat.le_of_ble_eq_true rfl) (Nat.le_of_ble_eq_true rfl) ?_
    exact e
set_option maxHeartbeats 4000000 in
set_option maxRecDepth 100000 in
theorem ct_Cd_fieldOf {G : cd_Gl} {l : Launch} {w : cd_Wd} {Q : cd_Out → cd_Wd → Prop} (hst : l.stackTraces = false) {x : Nat} {A : cd_A} {σ : cd_S} (hR : cd_Rep w x A σ) {d : Nat} {o f : Int32} (hd : d < sD σ) (h1 : hasO σ d o = false → Q (.inr 3) w) (h2 : ∀ j, j < 12 → o = nI j → sT σ d j = true → isFi f = false → Q (.inr 5) w) (h3 : ∀ j i, j < 12 → o = nI j → sT σ d j = true → i < 3 → f = nI i → Q (.inl (some (.ref (A 6 d j i)))) w) : cd_Ct G l y_Cd_fieldOf 6 1 6 [.ref (A 1 d 0 0), .int o, .int f] w Q := by
  refine cd_ofW cw_Cd_fieldOf (by simp [Value.category, cat_rf]) (Nat.le_of_ble_eq_true rfl) fun C O => ?_
  change cd_Go G l C _ 0 0 w 0 [some (.ref (A 1 d 0 0)), some (.int o), some (.int f)] []
  first | refine g_aload_n O 0 d_Cd_fieldOf_0 rfl rfl ?_ | refine g_aload_nq O 0 d_Cd_fieldOf_0 rfl rfl ?_
  refine g_iload_n O 1 d_Cd_fieldOf_1 rfl rfl ?_
  refine g_callv (N := 0) (mc := 0) (ms := 0) (av := [_]) O (Or.inl ⟨_, _, cw_Do_hasObject⟩) pl_Do (ci := 1) (q := q_Do) rfl (hR.d hd).2.1 ml_Cd_69 im_Do_hasObject se_Do_hasObject rfl d_Cd_fieldOf_2 rfl (Nat.le_of_ble_eq_true rfl) (Nat.le_of_ble_eq_true rfl) (Nat.le_of_ble_eq_true rfl) (Nat.le_of_ble_eq_true rfl) ?_
  refine ct_Do_hasObject hR hd ?_
  change cd_Go _ _ _ _ _ _ _ _ _ _
  refine g_if_ne O 18 d_Cd_fieldOf_5 (by decide) (fun c5 => ?_) (fun c5 => ?_)
  · obtain ⟨j, hj, rfl, ht⟩ := hasO_of (cd_b_ne.mp c5)
    have hcl : (nI j).toNatClampNeg = j := nI_clamp (by omega)
    refine g_iload_n O 2 d_Cd_fieldOf_18 rfl rfl ?_
    refine g_if_lt O 27 d_Cd_fieldOf_19 (by decide) (fun c19 => ?_) (fun c19 => ?_)
    · have e := h2 j hj rfl ht (by simp [isFi, c19])
      refine g_throw (E := 5) O hst ew_5 (by decide +kernel) kl_Cd_84 ia_IndexOutOfBoundsException in_IndexOutOfBoundsException ml_Cd_88 ss_Cd_255 d_Cd_fieldOf_27 d_Cd_fieldOf_30 d_Cd_fieldOf_31 d_Cd_fieldOf_33 d_Cd_fieldOf_36 rfl (Nat.le_of_ble_eq_true rfl) (Nat.le_of_ble_eq_true rfl) (Nat.le_of_ble_eq_true rfl) (Nat.le_of_ble_eq_true rfl) (Nat.le_of_ble_eq_true rfl) (Nat.le_of_ble_eq_true rfl) ?_
      exact e
    · refine g_iload_n O 2 d_Cd_fieldOf_22 rfl rfl ?_
      refine g_iconst (v := 3) O d_Cd_fieldOf_23 (by decide) ?_
      refine g_icmp_lt O 37 d_Cd_fieldOf_24 (by decide) (fun c24 => ?_) (fun c24 => ?_)
      · obtain ⟨i, hi, rfl⟩ := isFi_of (d := f) (by simp [isFi, c19]; exact c24)
        have hcl2 : (nI i).toNatClampNeg = i := nI_clamp (by omega)
        have e := h3 j i hj rfl ht hi rfl
        first | refine g_aload_n O 0 d_Cd_fieldOf_37 rfl rfl ?_ | refine g_aload_nq O 0 d_Cd_fieldOf_37 rfl rfl ?_
        refine g_getS O c_Do 1 (by decide) rfl (hR.d hd).2.1 lk_Cd_205 d_Cd_fieldOf_38 (hR.d hd).2.2.1 ?_
        refine g_iload_n O 1 d_Cd_fieldOf_41 rfl rfl ?_
        refine g_aaldS O 4 rfl rfl (hR.d hd).2.2.2.1 (by rw [(hR.d hd).2.2.2.2.1]; exact ix_in hj (by omega)) d_Cd_fieldOf_42 (by rw [hcl]; exact (hR.o hd hj).1) ?_
        refine g_getS O c_Ob 1 (by decide) rfl (hR.o hd hj).2.1 lk_Cd_209 d_Cd_fieldOf_43 (hR.o hd hj).2.2.2.1 ?_
        refine g_iload_n O 2 d_Cd_fieldOf_46 rfl rfl ?_
        refine g_aaldS O 5 rfl rfl (hR.o hd hj).2.2.2.2.1 (by rw [(hR.o hd hj).2.2.2.2.2]; exact ix_in hi (by omega)) d_Cd_fieldOf_47 (by rw [hcl2]; exact (hR.f hd hj hi).1) ?_
        first | refine g_aretS O d_Cd_fieldOf_48 (Nat.le_of_ble_eq_true rfl) (Nat.le_of_ble_eq_true rfl) ?_ | refine g_aretN O d_Cd_fieldOf_48 (Nat.le_of_ble_eq_true rfl) (Nat.le_of_ble_eq_true rfl) ?_
        exact e
      · have e := h2 j hj rfl ht (by simp [isFi]; intro _; exact Int32.not_lt.mp c24)
        refine g_throw (E := 5) O hst ew_5 (by decide +kernel) kl_Cd_84 ia_IndexOutOfBoundsException in_IndexOutOfBoundsException ml_Cd_88 ss_Cd_255 d_Cd_fieldOf_27 d_Cd_fieldOf_30 d_Cd_fieldOf_31 d_Cd_fieldOf_33 d_Cd_fieldOf_36 rfl (Nat.le_of_ble_eq_true rfl) (Nat.le_of_ble_eq_true rfl) (Nat.le_of_ble_eq_true rfl) (Nat.le_of_ble_eq_true rfl) (Nat.le_of_ble_eq_true rfl) (Nat.le_of_ble_eq_true rfl) ?_
        exact e
  · have e := h1 (cd_b_eq.mp c5)
    refine g_throw (E := 3) O hst ew_3 (by decide +kernel) kl_Cd_73 ia_NoSuchElementException in_NoSuchElementException ml_Cd_77 ss_Cd_104 d_Cd_fieldOf_8 d_Cd_fieldOf_11 d_Cd_fieldOf_12 d_Cd_fieldOf_14 d_Cd_fieldOf_17 rfl (Nat.le_of_ble_eq_true rfl) (Nat.le_of_ble_eq_true rfl) (Nat.le_of_ble_eq_true rfl) (Nat.le_of_ble_eq_true rfl) (Nat.le_of_ble_eq_true rfl) (Nat.le_of_ble_eq_true rfl) ?_
    exact e
set_option maxHeartbeats 4000000 in
set_option maxRecDepth 100000 in
theorem ct_Cd_capabilityIn {G : cd_Gl} {l : Launch} {w : cd_Wd} {Q : cd_Out → cd_Wd → Prop} (hst : l.stackTraces = false) {x : Nat} {A : cd_A} {σ : cd_S} (hR : cd_Rep w x A σ) {d i : Nat} (hd : d < sD σ) (hi : i < 8) (h1 : sS σ d i = none → Q (.inr 3) w) (h2 : ∀ c, sS σ d i = some c → c < sC σ → Q (.inl (some (.ref (A 8 c 0 0)))) w) : cd_Ct G l y_Cd_capabilityIn 6 1 6 [.ref (A 1 d 0 0), .int (nI i)] w Q := by
  refine cd_ofW cw_Cd_capabilityIn (by simp [Value.category, cat_rf]) (Nat.le_of_ble_eq_true rfl) fun C O => ?_
  change cd_Go G l C _ 0 0 w 0 [some (.ref (A 1 d 0 0)), some (.int (nI i)), none] []
  first | refine g_aload_n O 0 d_Cd_capabilityIn_0 rfl rfl ?_ | refine g_aload_nq O 0 d_Cd_capabilityIn_0 rfl rfl ?_
  refine g_getS O c_Do 2 (by decide) rfl (hR.d hd).2.1 lk_Cd_227 d_Cd_capabilityIn_1 (hR.d hd).2.2.2.2.2.1 ?_
  refine g_iload_n O 1 d_Cd_capabilityIn_4 rfl rfl ?_
  refine g_aaldV O 6 rfl rfl (hR.d hd).2.2.2.2.2.2.1 (by rw [(hR.d hd).2.2.2.2.2.2.2.1]; exact ix_in hi (by omega)) d_Cd_capabilityIn_5 (show cd_O w (1000 + 6) (A 3 d 0 0) (nI i).toNatClampNeg = (sS σ d i).map (fun c => A 8 c 0 0) from by rw [nI_clamp (by omega)]; exact hR.s hd hi) ?_
  first | refine g_astore_n O 2 d_Cd_capabilityIn_6 rfl (Nat.le_of_ble_eq_true rfl) ?_ | refine g_astore_nq O 2 d_Cd_capabilityIn_6 rfl (Nat.le_of_ble_eq_true rfl) ?_
  first | refine g_aload_n O 2 d_Cd_capabilityIn_7 rfl rfl ?_ | refine g_aload_nq O 2 d_Cd_capabilityIn_7 rfl rfl ?_
  refine g_ifnonnull O 22 d_Cd_capabilityIn_8 (by decide) (fun x8 c8 => ?_) (fun c8 => ?_)
  · obtain ⟨c, hc⟩ : ∃ c, sS σ d i = some c := by cases hz : sS σ d i with
      | none => rw [hz] at c8; cases c8
      | some c => exact ⟨c, rfl⟩
    have e := h2 c hc (hR.wf.1 d i c hd hi hc)
    rw [hc]
    change cd_Go G l C _ _ _ _ _ [some (.ref (A 1 d 0 0)), some (.int (nI i)), some (.ref (A 8 c 0 0))] []
    first | refine g_aload_n O 2 d_Cd_capabilityIn_22 rfl rfl ?_ | refine g_aload_nq O 2 d_Cd_capabilityIn_22 rfl rfl ?_
    first | refine g_aretS O d_Cd_capabilityIn_23 (Nat.le_of_ble_eq_true rfl) (Nat.le_of_ble_eq_true rfl) ?_ | refine g_aretN O d_Cd_capabilityIn_23 (Nat.le_of_ble_eq_true rfl) (Nat.le_of_ble_eq_true rfl) ?_
    exact e
  · have e := h1 (by cases hz : sS σ d i with
      | none => rfl
      | some c => rw [hz] at c8; cases c8)
    refine g_throwW (E := 3) O hst ew_3 (by decide +kernel) kl_Cd_73 ia_NoSuchElementException in_NoSuchElementException ml_Cd_77 ss_Cd_257 d_Cd_capabilityIn_11 d_Cd_capabilityIn_14 d_Cd_capabilityIn_15 d_Cd_capabilityIn_18 d_Cd_capabilityIn_21 rfl (Nat.le_of_ble_eq_true rfl) (Nat.le_of_ble_eq_true rfl) (Nat.le_of_ble_eq_true rfl) (Nat.le_of_ble_eq_true rfl) (Nat.le_of_ble_eq_true rfl) (Nat.le_of_ble_eq_true rfl) ?_
    exact e
set_option maxHeartbeats 4000000 in
set_option maxRecDepth 100000 in
theorem ct_Cd_targetField {G : cd_Gl} {l : Launch} {w : cd_Wd} {Q : cd_Out → cd_Wd → Prop} (hst : l.stackTraces = false) {x : Nat} {A : cd_A} {σ : cd_S} (hR : cd_Rep w x A σ) {c : Nat} {f : Int32} (hc : c < sC σ) (ht : sT σ (kH σ c) (kT σ c) = true) (h2 : isFi f = false → Q (.inr 5) w) (h3 : ∀ i, i < 3 → f = nI i → Q (.inl (some (.ref (A 6 (kH σ c) (kT σ c) i)))) w) : cd_Ct G l y_Cd_targetField 7 1 6 [.ref (A 8 c 0 0), .int f] w Q := by
  refine cd_ofW cw_Cd_targetField (by simp [Value.category, cat_rf]) (Nat.le_of_ble_eq_true rfl) fun C O => ?_
  change cd_Go G l C _ 0 0 w 0 [some (.ref (A 8 c 0 0)), some (.int f)] []
  have hw := hR.wf.2.2.2 c hc
  first | refine g_aload_n O 0 d_Cd_targetField_0 rfl rfl ?_ | refine g_aload_nq O 0 d_Cd_targetField_0 rfl rfl ?_
  refine g_getS O c_Ca 0 (by decide) rfl (hR.c hc).2.1 lk_Cd_130 d_Cd_targetField_1 (hR.c hc).2.2.1 ?_
  first | refine g_aload_n O 0 d_Cd_targetField_4 rfl rfl ?_ | refine g_aload_nq O 0 d_Cd_targetField_4 rfl rfl ?_
  refine g_getV O c_Ca 1 (by decide) rfl (hR.c hc).2.1 lk_Cd_134 d_Cd_targetField_5 (hR.c hc).2.2.2.1 ?_
  refine g_iload_n O 1 d_Cd_targetField_8 rfl rfl ?_
  refine g_calls (N := 6) (mc := 1) (ms := 6) (av := [_, _, _]) O (Or.inl ⟨_, _, cw_Cd_fieldOf⟩) pl_Cd ml_Cd_56 st_Cd_fieldOf in_Cd rfl d_Cd_targetField_9 rfl (Nat.le_of_ble_eq_true rfl) (Nat.le_of_ble_eq_true rfl) (Nat.le_of_ble_eq_true rfl) (Nat.le_of_ble_eq_true rfl) ?_
  refine ct_Cd_fieldOf hst hR hw.1 (fun e => ?_) (fun j hj ej _ ef => ?_) (fun j i hj ej _ hi ef => ?_)
  · rw [hasO_nI hw.2.1, ht] at e; cases e
  · exact gx_out O (Nat.le_of_ble_eq_true rfl) (Nat.le_of_ble_eq_true rfl) (h2 ef)
  have ejj : j = kT σ c := ((nI_eq (by omega) (by omega)).mp ej).symm
  subst ejj
  have e := h3 i hi ef
  change cd_Go _ _ _ _ _ _ _ _ _ _
  first | refine g_aretS O d_Cd_targetField_12 (Nat.le_of_ble_eq_true rfl) (Nat.le_of_ble_eq_true rfl) ?_ | refine g_aretN O d_Cd_targetField_12 (Nat.le_of_ble_eq_true rfl) (Nat.le_of_ble_eq_true rfl) ?_
  exact e
set_option maxHeartbeats 4000000 in
set_option maxRecDepth 100000 in
theorem ct_Ca_isUsedUp {G : cd_Gl} {l : Launch} {w : cd_Wd} {Q : cd_Out → cd_Wd → Prop} {x : Nat} {A : cd_A} {σ : cd_S} (hR : cd_Rep w x A σ) {c : Nat} (hc : c < sC σ) (h : Q (.inl (some (.int (cd_b (upB σ c))))) w) : cd_Ct G l y_Ca_isUsedUp 0 0 0 [.ref (A 8 c 0 0)] w Q := by
  refine cd_ofW cw_Ca_isUsedUp (by simp [Value.category, cat_rf]) (Nat.le_of_ble_eq_true rfl) fun C O => ?_
  change cd_Go G l C _ 0 0 w 0 [some (.ref (A 8 c 0 0)), none] []
  have hpar : ∀ c, c < sC σ → ∀ q, kP σ c = some q → q < c := fun c hc => (hR.wf.2.2.2 c hc).2.2
  have loop : ∀ (n c : Nat), c < n → c < sC σ → Q (.inl (some (.int (cd_b (upB σ c))))) w → ∀ a0, cd_Go G l C (cd_MQ G (cx_s C) (cx_b C) 0 0 Q) 0 0 w 2 [some (.ref a0), some (.ref (A 8 c 0 0))] [] := by
    intro n
    induction n with
    | zero => intro c h; omega
    | succ n ih =>
      intro c hn hc h a0
      rw [upB_eq hpar hc] at h
      first | refine g_aload_n O 1 d_Ca_isUsedUp_2 rfl rfl ?_ | refine g_aload_nq O 1 d_Ca_isUsedUp_2 rfl rfl ?_
      refine g_ifnullS O d_Ca_isUsedUp_3 ?_
      first | refine g_aload_n O 1 d_Ca_isUsedUp_6 rfl rfl ?_ | refine g_aload_nq O 1 d_Ca_isUsedUp_6 rfl rfl ?_
      refine g_getV O c_Ca 4 (by decide) rfl (hR.c hc).2.1 lk_Ca_24 d_Ca_isUsedUp_7 (hR.c hc).2.2.2.2.2.2.1 ?_
      refine g_if_ne O 15 d_Ca_isUsedUp_10 (by decide) (fun c10 => ?_) (fun c10 => ?_)
      · rw [decide_eq_false c10] at h
        first | refine g_aload_n O 1 d_Ca_isUsedUp_15 rfl rfl ?_ | refine g_aload_nq O 1 d_Ca_isUsedUp_15 rfl rfl ?_
        cases hp : kP σ c with
        | none =>
          rw [hp] at h
          refine g_getOV O c_Ca 2 (by decide) rfl (hR.c hc).2.1 lk_Ca_17 d_Ca_isUsedUp_16 (by rw [show cd_O w (32 * 4 + 2) (A 8 c 0 0) 0 = _ from (hR.c hc).2.2.2.2.1, hp]; rfl : _ = none) ?_
          first | refine g_astore_n O 1 d_Ca_isUsedUp_19 rfl (Nat.le_of_ble_eq_true rfl) ?_ | refine g_astore_nq O 1 d_Ca_isUsedUp_19 rfl (Nat.le_of_ble_eq_true rfl) ?_
          refine g_goto O 2 d_Ca_isUsedUp_20 (by decide) ?_
          first | refine g_aload_n O 1 d_Ca_isUsedUp_2 rfl rfl ?_ | refine g_aload_nq O 1 d_Ca_isUsedUp_2 rfl rfl ?_
          refine g_ifnullN O 23 d_Ca_isUsedUp_3 (by decide) ?_
          refine g_iconst (v := 0) O d_Ca_isUsedUp_23 (by decide) ?_
          refine g_zret O d_Ca_isUsedUp_24 (by first | exact Or.inl rfl | exact Or.inr rfl | assumption) (Nat.le_of_ble_eq_true rfl) (Nat.le_of_ble_eq_true rfl) ?_
          exact h
        | some p =>
          rw [hp] at h
          refine g_getS O c_Ca 2 (by decide) rfl (hR.c hc).2.1 lk_Ca_17 d_Ca_isUsedUp_16 (by rw [show cd_O w (32 * 4 + 2) (A 8 c 0 0) 0 = _ from (hR.c hc).2.2.2.2.1, hp]; rfl) ?_
          first | refine g_astore_n O 1 d_Ca_isUsedUp_19 rfl (Nat.le_of_ble_eq_true rfl) ?_ | refine g_astore_nq O 1 d_Ca_isUsedUp_19 rfl (Nat.le_of_ble_eq_true rfl) ?_
          refine g_goto O 2 d_Ca_isUsedUp_20 (by decide) ?_
          have hpc := hpar c hc p hp
          exact ih p (by omega) (by omega) (by simpa using h) a0
      · rw [decide_eq_true c10] at h
        refine g_iconst (v := 1) O d_Ca_isUsedUp_13 (by decide) ?_
        refine g_zret O d_Ca_isUsedUp_14 (by first | exact Or.inl rfl | exact Or.inr rfl | assumption) (Nat.le_of_ble_eq_true rfl) (Nat.le_of_ble_eq_true rfl) ?_
        exact h
  first | refine g_aload_n O 0 d_Ca_isUsedUp_0 rfl rfl ?_ | refine g_aload_nq O 0 d_Ca_isUsedUp_0 rfl rfl ?_
  first | refine g_astore_n O 1 d_Ca_isUsedUp_1 rfl (Nat.le_of_ble_eq_true rfl) ?_ | refine g_astore_nq O 1 d_Ca_isUsedUp_1 rfl (Nat.le_of_ble_eq_true rfl) ?_
  exact loop (c + 1) c (by omega) hc h _
end
section
/-! ===== what a method leaves as it was ===== -/
def cd_Fr (w w' : cd_Wd) (P : Nat → Prop) : Prop := ∀ b, cd_kd w b ≠ 0 → cd_kd w' b = cd_kd w b ∧ cd_ln w' b = cd_ln w b ∧ (¬ P b → (∀ t j, cd_I w' t b j = cd_I w t b j) ∧ (∀ t j, cd_O w' t b j = cd_O w t b j) ∧ ∀ j, cd_J w' b j = cd_J w b j)
theorem cd_Fr.rf {w : cd_Wd} {P : Nat → Prop} : cd_Fr w w P := fun _ _ => ⟨rfl, rfl, fun _ => ⟨fun _ _ => rfl, fun _ _ => rfl, fun _ => rfl⟩⟩
theorem cd_Fr.tr {w w' w'' : cd_Wd} {P : Nat → Prop} (h : cd_Fr w w' P) (h' : cd_Fr w' w'' P) : cd_Fr w w'' P := by
  intro b hb
  obtain ⟨a1, a2, a3⟩ := h b hb
  obtain ⟨b1, b2, b3⟩ := h' b (by rw [a1]; exact hb)
  refine ⟨b1.trans a1, b2.trans a2, fun hp => ?_⟩
  obtain ⟨c1, c2, c3⟩ := a3 hp
  obtain ⟨d1, d2, d3⟩ := b3 hp
  exact ⟨fun t j => (d1 t j).trans (c1 t j), fun t j => (d2 t j).trans (c2 t j), fun j => (d3 j).trans (c3 j)⟩
theorem cd_Fr.up {w w' : cd_Wd} {P P' : Nat → Prop} (h : cd_Fr w w' P) (hp : ∀ b, cd_kd w b ≠ 0 → P b → P' b) : cd_Fr w w' P' := fun b hb => ⟨(h b hb).1, (h b hb).2.1, fun n => (h b hb).2.2 fun z => n (hp b hb z)⟩
theorem cd_Fr.wI {w : cd_Wd} {P : Nat → Prop} {t a j : Nat} {v : Int32} (ha : P a) : cd_Fr w (cd_wI w t a j v) P := fun b _ => ⟨rfl, rfl, fun hn => ⟨fun t' j' => by rw [I_wI, if_neg (fun (z : t' = t ∧ b = a ∧ j' = j) => hn (z.2.1 ▸ ha))], fun _ _ => rfl, fun _ => rfl⟩⟩
theorem cd_Fr.wO {w : cd_Wd} {P : Nat → Prop} {t a j : Nat} {v : Option Nat} (ha : P a) : cd_Fr w (cd_wO w t a j v) P := fun b _ => ⟨rfl, rfl, fun hn => ⟨fun _ _ => rfl, fun t' j' => by rw [O_wO, if_neg (fun (z : t' = t ∧ b = a ∧ j' = j) => hn (z.2.1 ▸ ha))], fun _ => rfl⟩⟩
theorem cd_Fr.wJ {w : cd_Wd} {P : Nat → Prop} {a j : Nat} {v : Int64} (ha : P a) : cd_Fr w (cd_wJ w a j v) P := fun b _ => ⟨rfl, rfl, fun hn => ⟨fun _ _ => rfl, fun _ _ => rfl, fun j' => by rw [J_wJ, if_neg (fun (z : b = a ∧ j' = j) => hn (z.1 ▸ ha))]⟩⟩
theorem cd_Fr.wN {w : cd_Wd} {P : Nat → Prop} {q k n : Nat} (hq : cd_kd w q = 0) : cd_Fr w (cd_wN w q k n) P := fun b hb => by
  have hne : ¬ b = q := fun e => hb (e ▸ hq)
  refine ⟨by rw [kd_wN, if_neg hne], by rw [ln_wN, if_neg hne], fun _ => ⟨fun t j => by rw [I_wN, if_neg hne], fun t j => by rw [O_wN, if_neg hne], fun j => by rw [J_wN, if_neg hne]⟩⟩
/-- the class's own cells -/
def cd_ow (x : Nat) (A : cd_A) (σ : cd_S) (a : Nat) : Prop := a = x ∨ ∃ k d o f, cd_va σ k d o f ∧ a = A k d o f
theorem ow_at {x : Nat} {A : cd_A} {σ : cd_S} {k d o f : Nat} (h : cd_va σ k d o f) : cd_ow x A σ (A k d o f) := Or.inr ⟨k, d, o, f, h, rfl⟩
/-- one use less -/
def spend1 (σ : cd_S) (k : Nat) : cd_S := if 0 < kU σ k then setU σ k (kU σ k - 1) else σ
def spendL (σ : cd_S) : List Nat → cd_S
  | [] => σ
  | k :: ks => spendL (spend1 σ k) ks
theorem spend1_D (σ : cd_S) (k : Nat) : sD (spend1 σ k) = sD σ ∧ sC (spend1 σ k) = sC σ ∧ (∀ c, kP (spend1 σ k) c = kP σ c) ∧ (∀ d, sE (spend1 σ k) d = sE σ d) ∧ (∀ d o, sT (spend1 σ k) d o = sT σ d o) ∧ (∀ d o f, sF (spend1 σ k) d o f = sF σ d o f) ∧ (∀ d i, sS (spend1 σ k) d i = sS σ d i) ∧ (∀ c, kH (spend1 σ k) c = kH σ c) ∧ (∀ c, kT (spend1 σ k) c = kT σ c) ∧ (∀ c, kR (spend1 σ k) c = kR σ c) ∧ (∀ c, kV (spend1 σ k) c = kV σ c) ∧ (∀ c, kX (spend1 σ k) c = kX σ c) := by
  unfold spend1
  split
  · refine ⟨rfl, rfl, fun c => ?_, fun _ => rfl, fun _ _ => rfl, fun _ _ _ => rfl, fun _ _ => rfl, fun c => ?_, fun c => ?_, fun c => ?_, fun c => ?_, fun c => ?_⟩ <;>
    (simp only [setU, kP_setK, kH_setK, kT_setK, kR_setK, kV_setK, kX_setK]
     split <;> simp_all)
  · exact ⟨rfl, rfl, fun _ => rfl, fun _ => rfl, fun _ _ => rfl, fun _ _ _ => rfl, fun _ _ => rfl, fun _ => rfl, fun _ => rfl, fun _ => rfl, fun _ => rfl, fun _ => rfl⟩
theorem ancF_cg {σ τ : cd_S} (h : ∀ c, kP τ c = kP σ c) : ∀ n c, ancF τ n c = ancF σ n c := by
  intro n
  induction n with
  | zero => intro c; rfl
  | succ n ih =>
    intro c
    rw [ancF, ancF, h c]
    congr 1
    cases kP σ c with
    | none => rfl
    | some p => exact ih p
theorem anc_cg {σ τ : cd_S} (h : ∀ c, kP τ c = kP σ c) (c : Nat) : anc τ c = anc σ c := ancF_cg h _ _
theorem rep_ex {w : cd_Wd} {x : Nat} {A : cd_A} {σ : cd_S} (h : cd_Rep w x A σ) {k d o f : Nat} (hv : cd_va σ k d o f) : cd_kd w (A k d o f) ≠ 0 := by
  have ht := h.top
  match k, hv with
  | 0, hv => obtain ⟨rfl, rfl, rfl⟩ := hv; rw [ht.2.2.1]; decide
  | 1, hv => obtain ⟨hd, rfl, rfl⟩ := hv; rw [(h.d hd).2.1]; decide
  | 2, hv => obtain ⟨hd, rfl, rfl⟩ := hv; rw [(h.d hd).2.2.2.1]; decide
  | 3, hv => obtain ⟨hd, rfl, rfl⟩ := hv; rw [(h.d hd).2.2.2.2.2.2.1]; decide
  | 4, hv => obtain ⟨hd, ho, rfl⟩ := hv; rw [(h.o hd ho).2.1]; decide
  | 5, hv => obtain ⟨hd, ho, rfl⟩ := hv; rw [(h.o hd ho).2.2.2.2.1]; decide
  | 6, hv => obtain ⟨hd, ho, hf⟩ := hv; rw [(h.f hd ho hf).2.1]; decide
  | 7, hv => obtain ⟨rfl, rfl, rfl⟩ := hv; rw [ht.2.2.2.2.2.1]; decide
  | 8, hv => obtain ⟨hd, rfl, rfl⟩ := hv; rw [(h.c hd).2.1]; decide
  | 9, hv => obtain ⟨rfl, rfl, rfl⟩ := hv; rw [ht.2.2.2.2.2.2.2.2.1]; decide
  | 10, hv => obtain ⟨rfl, rfl, rfl⟩ := hv; rw [ht.2.2.2.2.2.2.2.2.2.2.1]; decide
  | 11, hv => obtain ⟨rfl, rfl, rfl⟩ := hv; rw [ht.2.2.2.2.2.2.2.2.2.2.2.2.2.1]; decide
  | 12, hv => obtain ⟨rfl, rfl, rfl⟩ := hv; rw [ht.2.2.2.2.2.2.2.2.2.2.2.2.2.2.2.2.1]; decide
  | k + 13, hv => exact hv.elim
end
section
set_option maxHeartbeats 4000000 in
set_option maxRecDepth 100000 in
theorem ct_Cd_usable {G : cd_Gl} {l : Launch} {w : cd_Wd} {Q : cd_Out → cd_Wd → Prop} (hst : l.stackTraces = false) {x : Nat} {A : cd_A} {σ : cd_S} (hR : cd_Rep w x A σ) {d s r : Int32} (h1 : (isD σ d && isSl s) = false → Q (.inr 1) w) (h2 : ∀ j i, j < sD σ → d = nI j → i < 8 → s = nI i → sE σ j = true → Q (.inr 2) w) (h3 : ∀ j i, j < sD σ → d = nI j → i < 8 → s = nI i → sE σ j = false → sS σ j i = none → Q (.inr 3) w) (h4 : ∀ j i c, j < sD σ → d = nI j → i < 8 → s = nI i → sE σ j = false → sS σ j i = some c → c < sC σ → (kX σ c || upB σ c) = true → Q (.inr 2) w) (h5 : ∀ j i c, j < sD σ → d = nI j → i < 8 → s = nI i → sE σ j = false → sS σ j i = some c → c < sC σ → (kX σ c || upB σ c) = false → alw σ c r = false → Q (.inr 4) w) (h6 : ∀ j i c, j < sD σ → d = nI j → i < 8 → s = nI i → sE σ j = false → sS σ j i = some c → c < sC σ → (kX σ c || upB σ c) = false → alw σ c r = true → Q (.inl (some (.ref (A 8 c 0 0)))) w) : cd_Ct G l y_Cd_usable 7 4 24 [.ref x, .int d, .int s, .int r] w Q := by
  refine cd_ofW cw_Cd_usable (by simp [Value.category, cat_rf]) (Nat.le_of_ble_eq_true rfl) fun C O => ?_
  change cd_Go G l C _ 0 0 w 0 [some (.ref x), some (.int d), some (.int s), some (.int r), none] []
  first | refine g_aload_n O 0 d_Cd_usable_0 rfl rfl ?_ | refine g_aload_nq O 0 d_Cd_usable_0 rfl rfl ?_
  refine g_iload_n O 1 d_Cd_usable_1 rfl rfl ?_
  refine g_iload_n O 2 d_Cd_usable_2 rfl rfl ?_
  refine g_callv (N := 6) (mc := 1) (ms := 6) (av := [_, _]) O (Or.inl ⟨_, _, cw_Cd_requireSlot⟩) pl_Cd (ci := 0) (q := q_Cd) rfl hR.top.1 ml_Cd_97 im_Cd_requireSlot se_Cd_requireSlot rfl d_Cd_usable_3 rfl (Nat.le_of_ble_eq_true rfl) (Nat.le_of_ble_eq_true rfl) (Nat.le_of_ble_eq_true rfl) (Nat.le_of_ble_eq_true rfl) ?_
  refine ct_Cd_requireSlot hst hR (fun e => ?_) (fun hD hS => ?_)
  · exact gx_out O (Nat.le_of_ble_eq_true rfl) (Nat.le_of_ble_eq_true rfl) (h1 e)
  obtain ⟨j, hj, rfl⟩ := isD_of hR.top.2.2.2.2.2.2.2.2.2.2.2.2.2.2.2.2.2.2.2.1 hD
  obtain ⟨i, hi, rfl⟩ := isSl_of hS
  have hj6 : j < 6 := Nat.lt_of_lt_of_le hj hR.top.2.2.2.2.2.2.2.2.2.2.2.2.2.2.2.2.2.2.2.1
  change cd_Go _ _ _ _ _ _ _ _ _ _
  first | refine g_aload_n O 0 d_Cd_usable_6 rfl rfl ?_ | refine g_aload_nq O 0 d_Cd_usable_6 rfl rfl ?_
  refine g_iload_n O 1 d_Cd_usable_7 rfl rfl ?_
  refine g_callv (N := 6) (mc := 1) (ms := 6) (av := [_]) O (Or.inl ⟨_, _, cw_Cd_livingDomain⟩) pl_Cd (ci := 0) (q := q_Cd) rfl hR.top.1 ml_Cd_40 im_Cd_livingDomain se_Cd_livingDomain rfl d_Cd_usable_8 rfl (Nat.le_of_ble_eq_true rfl) (Nat.le_of_ble_eq_true rfl) (Nat.le_of_ble_eq_true rfl) (Nat.le_of_ble_eq_true rfl) ?_
  refine ct_Cd_livingDomain hst hR (fun e => ?_) (fun j2 hj2 ej he => ?_) (fun j2 hj2 ej he => ?_)
  · rw [hD] at e; cases e
  · obtain rfl : j = j2 := (nI_eq (by omega) (by have := hR.top.2.2.2.2.2.2.2.2.2.2.2.2.2.2.2.2.2.2.2.1; omega)).mp ej
    exact gx_out O (Nat.le_of_ble_eq_true rfl) (Nat.le_of_ble_eq_true rfl) (h2 j i hj rfl hi rfl he)
  obtain rfl : j = j2 := (nI_eq (by omega) (by have := hR.top.2.2.2.2.2.2.2.2.2.2.2.2.2.2.2.2.2.2.2.1; omega)).mp ej
  change cd_Go _ _ _ _ _ _ _ _ _ _
  refine g_iload_n O 2 d_Cd_usable_11 rfl rfl ?_
  refine g_calls (N := 6) (mc := 1) (ms := 6) (av := [_, _]) O (Or.inl ⟨_, _, cw_Cd_capabilityIn⟩) pl_Cd ml_Cd_89 st_Cd_capabilityIn in_Cd rfl d_Cd_usable_12 rfl (Nat.le_of_ble_eq_true rfl) (Nat.le_of_ble_eq_true rfl) (Nat.le_of_ble_eq_true rfl) (Nat.le_of_ble_eq_true rfl) ?_
  refine ct_Cd_capabilityIn hst hR hj hi (fun e => ?_) (fun c hs hc => ?_)
  · exact gx_out O (Nat.le_of_ble_eq_true rfl) (Nat.le_of_ble_eq_true rfl) (h3 j i hj rfl hi rfl he e)
  change cd_Go _ _ _ _ _ _ _ _ _ _
  first | refine g_astore O d_Cd_usable_15 (Nat.le_of_ble_eq_true rfl) ?_ | refine g_astoreq O d_Cd_usable_15 (Nat.le_of_ble_eq_true rfl) ?_
  first | refine g_aload O d_Cd_usable_17 rfl ?_ | refine g_aloadq O d_Cd_usable_17 rfl ?_
  refine g_getV O c_Ca 6 (by decide) rfl (hR.c hc).2.1 lk_Cd_116 d_Cd_usable_19 (hR.c hc).2.2.2.2.2.2.2.2 ?_
  refine g_if_ne O 33 d_Cd_usable_22 (by decide) (fun c22 => ?_) (fun c22 => ?_)
  · have e := h4 j i c hj rfl hi rfl he hs hc (by simp [cd_b_ne.mp c22])
    refine g_throwW (E := 2) O hst ew_2 (by decide +kernel) kl_Cd_32 ia_IllegalStateException in_IllegalStateException ml_Cd_36 ss_Cd_262 d_Cd_usable_33 d_Cd_usable_36 d_Cd_usable_37 d_Cd_usable_40 d_Cd_usable_43 rfl (Nat.le_of_ble_eq_true rfl) (Nat.le_of_ble_eq_true rfl) (Nat.le_of_ble_eq_true rfl) (Nat.le_of_ble_eq_true rfl) (Nat.le_of_ble_eq_true rfl) (Nat.le_of_ble_eq_true rfl) ?_
    exact e
  · first | refine g_aload O d_Cd_usable_25 rfl ?_ | refine g_aloadq O d_Cd_usable_25 rfl ?_
    refine g_callv (N := 0) (mc := 0) (ms := 0) (av := []) O (Or.inl ⟨_, _, cw_Ca_isUsedUp⟩) pl_Ca (ci := 4) (q := q_Ca) rfl (hR.c hc).2.1 ml_Cd_259 im_Ca_isUsedUp se_Ca_isUsedUp rfl d_Cd_usable_27 rfl (Nat.le_of_ble_eq_true rfl) (Nat.le_of_ble_eq_true rfl) (Nat.le_of_ble_eq_true rfl) (Nat.le_of_ble_eq_true rfl) ?_
    refine ct_Ca_isUsedUp hR hc ?_
    change cd_Go _ _ _ _ _ _ _ _ _ _
    refine g_if_eq O 44 d_Cd_usable_30 (by decide) (fun c30 => ?_) (fun c30 => ?_)
    · have hxu : (kX σ c || upB σ c) = false := by simp [cd_b_eq.mp c22, cd_b_eq.mp c30]
      first | refine g_aload O d_Cd_usable_44 rfl ?_ | refine g_aloadq O d_Cd_usable_44 rfl ?_
      refine g_iload_n O 3 d_Cd_usable_46 rfl rfl ?_
      refine g_callv (N := 0) (mc := 0) (ms := 0) (av := [_]) O (Or.inl ⟨_, _, cw_Ca_allows⟩) pl_Ca (ci := 4) (q := q_Ca) rfl (hR.c hc).2.1 ml_Cd_122 im_Ca_allows se_Ca_allows rfl d_Cd_usable_47 rfl (Nat.le_of_ble_eq_true rfl) (Nat.le_of_ble_eq_true rfl) (Nat.le_of_ble_eq_true rfl) (Nat.le_of_ble_eq_true rfl) ?_
      refine ct_Ca_allows hR hc ?_
      change cd_Go _ _ _ _ _ _ _ _ _ _
      refine g_if_ne O 64 d_Cd_usable_50 (by decide) (fun c50 => ?_) (fun c50 => ?_)
      · have e := h6 j i c hj rfl hi rfl he hs hc hxu (cd_b_ne.mp c50)
        first | refine g_aload O d_Cd_usable_64 rfl ?_ | refine g_aloadq O d_Cd_usable_64 rfl ?_
        first | refine g_aretS O d_Cd_usable_66 (Nat.le_of_ble_eq_true rfl) (Nat.le_of_ble_eq_true rfl) ?_ | refine g_aretN O d_Cd_usable_66 (Nat.le_of_ble_eq_true rfl) (Nat.le_of_ble_eq_true rfl) ?_
        exact e
      · have e := h5 j i c hj rfl hi rfl he hs hc hxu (cd_b_eq.mp c50)
        refine g_throwW (E := 4) O hst ew_4 (by decide +kernel) kl_Cd_125 ia_UnsupportedOperationException in_UnsupportedOperationException ml_Cd_129 ss_Cd_264 d_Cd_usable_53 d_Cd_usable_56 d_Cd_usable_57 d_Cd_usable_60 d_Cd_usable_63 rfl (Nat.le_of_ble_eq_true rfl) (Nat.le_of_ble_eq_true rfl) (Nat.le_of_ble_eq_true rfl) (Nat.le_of_ble_eq_true rfl) (Nat.le_of_ble_eq_true rfl) (Nat.le_of_ble_eq_true rfl) ?_
        exact e
    · have e := h4 j i c hj rfl hi rfl he hs hc (by simp [cd_b_ne.mp c30])
      refine g_throwW (E := 2) O hst ew_2 (by decide +kernel) kl_Cd_32 ia_IllegalStateException in_IllegalStateException ml_Cd_36 ss_Cd_262 d_Cd_usable_33 d_Cd_usable_36 d_Cd_usable_37 d_Cd_usable_40 d_Cd_usable_43 rfl (Nat.le_of_ble_eq_true rfl) (Nat.le_of_ble_eq_true rfl) (Nat.le_of_ble_eq_true rfl) (Nat.le_of_ble_eq_true rfl) (Nat.le_of_ble_eq_true rfl) (Nat.le_of_ble_eq_true rfl) ?_
      exact e
set_option maxHeartbeats 4000000 in
set_option maxRecDepth 100000 in
theorem ct_Ca_spendOneUse {G : cd_Gl} {l : Launch} {w : cd_Wd} {Q : cd_Out → cd_Wd → Prop} {x : Nat} {A : cd_A} {σ : cd_S} (hR : cd_Rep w x A σ) {c : Nat} (hc : c < sC σ) (h : ∀ w', cd_Rep w' x A (spendL σ (anc σ c)) → cd_Fr w w' (cd_ow x A σ) → Q (.inl none) w') : cd_Ct G l y_Ca_spendOneUse 0 0 0 [.ref (A 8 c 0 0)] w Q := by
  refine cd_ofW cw_Ca_spendOneUse (by simp [Value.category, cat_rf]) (Nat.le_of_ble_eq_true rfl) fun C O => ?_
  change cd_Go G l C _ 0 0 w 0 [some (.ref (A 8 c 0 0)), none] []
  have loop : ∀ (n : Nat) (w : cd_Wd) (σ : cd_S), cd_Rep w x A σ → ∀ c, c < n → c < sC σ → (∀ w', cd_Rep w' x A (spendL σ (anc σ c)) → cd_Fr w w' (cd_ow x A σ) → Q (.inl none) w') → ∀ a0, cd_Go G l C (cd_MQ G (cx_s C) (cx_b C) 0 0 Q) 0 0 w 2 [some (.ref a0), some (.ref (A 8 c 0 0))] [] := by
    intro n
    induction n with
    | zero => intro w σ hR c h; omega
    | succ n ih =>
      intro w σ hR c hn hc h a0
      have hpar : ∀ c, c < sC σ → ∀ q, kP σ c = some q → q < c := fun c hc => (hR.wf.2.2.2 c hc).2.2
      rw [anc_eq hpar hc] at h
      have tail : ∀ w1, cd_Rep w1 x A (spend1 σ c) → cd_Fr w w1 (cd_ow x A σ) → cd_Go G l C (cd_MQ G (cx_s C) (cx_b C) 0 0 Q) 0 0 w1 23 [some (.ref a0), some (.ref (A 8 c 0 0))] [] := by
        intro w1 hR1 hF1
        obtain ⟨z1, z2, z3, -⟩ := spend1_D σ c
        have hc1 : c < sC (spend1 σ c) := by rw [z2]; exact hc
        have q := (hR1.c hc1).2.2.2.2.1
        rw [z3 c] at q
        refine g_aload_n O 1 d_Ca_spendOneUse_23 rfl rfl ?_
        cases hp : kP σ c with
        | none =>
          rw [hp] at h q
          refine g_getOV O c_Ca 2 (by decide) rfl (hR1.c hc1).2.1 lk_Ca_17 d_Ca_spendOneUse_24 (show cd_O w1 (32 * 4 + 2) (A 8 c 0 0) 0 = none from q) ?_
          first | refine g_astore_n O 1 d_Ca_spendOneUse_27 rfl (Nat.le_of_ble_eq_true rfl) ?_ | refine g_astore_nq O 1 d_Ca_spendOneUse_27 rfl (Nat.le_of_ble_eq_true rfl) ?_
          refine g_goto O 2 d_Ca_spendOneUse_28 (by decide) ?_
          first | refine g_aload_n O 1 d_Ca_spendOneUse_2 rfl rfl ?_ | refine g_aload_nq O 1 d_Ca_spendOneUse_2 rfl rfl ?_
          refine g_ifnullN O 31 d_Ca_spendOneUse_3 (by decide) ?_
          refine g_ret O d_Ca_spendOneUse_31 (Nat.le_of_ble_eq_true rfl) (Nat.le_of_ble_eq_true rfl) ?_
          exact h w1 hR1 hF1
        | some p =>
          rw [hp] at h q
          have hpc := hpar c hc p hp
          refine g_getS O c_Ca 2 (by decide) rfl (hR1.c hc1).2.1 lk_Ca_17 d_Ca_spendOneUse_24 q ?_
          first | refine g_astore_n O 1 d_Ca_spendOneUse_27 rfl (Nat.le_of_ble_eq_true rfl) ?_ | refine g_astore_nq O 1 d_Ca_spendOneUse_27 rfl (Nat.le_of_ble_eq_true rfl) ?_
          refine g_goto O 2 d_Ca_spendOneUse_28 (by decide) ?_
          refine ih w1 (spend1 σ c) hR1 p (by omega) (by rw [z2]; omega) (fun w2 hR2 hF2 => ?_) a0
          rw [anc_cg z3] at hR2
          exact h w2 hR2 (hF1.tr (hF2.up fun b _ hb => by
            rcases hb with rfl | ⟨k1, d1, o1, f1, hv, rfl⟩
            · exact Or.inl rfl
            · exact Or.inr ⟨k1, d1, o1, f1, by simpa only [cd_va, z1, z2] using hv, rfl⟩))
      first | refine g_aload_n O 1 d_Ca_spendOneUse_2 rfl rfl ?_ | refine g_aload_nq O 1 d_Ca_spendOneUse_2 rfl rfl ?_
      refine g_ifnullS O d_Ca_spendOneUse_3 ?_
      first | refine g_aload_n O 1 d_Ca_spendOneUse_6 rfl rfl ?_ | refine g_aload_nq O 1 d_Ca_spendOneUse_6 rfl rfl ?_
      refine g_getV O c_Ca 4 (by decide) rfl (hR.c hc).2.1 lk_Ca_24 d_Ca_spendOneUse_7 (hR.c hc).2.2.2.2.2.2.1 ?_
      refine g_if_le O 23 d_Ca_spendOneUse_10 (by decide) (fun c10 => ?_) (fun c10 => ?_)
      · exact tail w (by unfold spend1; rw [if_neg (Int32.not_lt.mpr c10)]; exact hR) cd_Fr.rf
      · first | refine g_aload_n O 1 d_Ca_spendOneUse_13 rfl rfl ?_ | refine g_aload_nq O 1 d_Ca_spendOneUse_13 rfl rfl ?_
        refine g_dup O d_Ca_spendOneUse_14 (by first | rfl | exact cat_rf _) ?_
        refine g_getV O c_Ca 4 (by decide) rfl (hR.c hc).2.1 lk_Ca_24 d_Ca_spendOneUse_15 (hR.c hc).2.2.2.2.2.2.1 ?_
        refine g_iconst (v := 1) O d_Ca_spendOneUse_18 (by decide) ?_
        refine g_isub O d_Ca_spendOneUse_19 ?_
        refine g_putI O c_Ca 4 (by decide) rfl (hR.c hc).2.1 (Or.inl rfl) (Or.inl rfl) lk_Ca_24 d_Ca_spendOneUse_20 ?_
        exact tail _ (by unfold spend1; rw [if_pos (Int32.not_le.mp c10)]; exact rep_U hR hc _) (cd_Fr.wI (ow_at (k := 8) ⟨hc, rfl, rfl⟩))
  first | refine g_aload_n O 0 d_Ca_spendOneUse_0 rfl rfl ?_ | refine g_aload_nq O 0 d_Ca_spendOneUse_0 rfl rfl ?_
  first | refine g_astore_n O 1 d_Ca_spendOneUse_1 rfl (Nat.le_of_ble_eq_true rfl) ?_ | refine g_astore_nq O 1 d_Ca_spendOneUse_1 rfl (Nat.le_of_ble_eq_true rfl) ?_
  exact loop (c + 1) w σ hR c (by omega) hc h _
end
section
/-! ===== LOOPS ===== -/
theorem ic1 (j : Nat) : nI j + Int32.ofInt 1 = nI (j + 1) := (nI_succ j).symm
theorem lp {P : Nat → cd_Wd → Prop} {g : Nat → cd_Wd → Prop} (N : Nat) (he : ∀ w, P N w → g N w) (hs : ∀ j w, j < N → P j w → (∀ w', P (j + 1) w' → g (j + 1) w') → g j w) : ∀ j w, j ≤ N → P j w → g j w := by
  have h : ∀ r j w, j + r = N → P j w → g j w := by
    intro r
    induction r with
    | zero => intro j w e hp; obtain rfl : j = N := by omega
              exact he w hp
    | succ r ih => intro j w e hp; exact hs j w (by omega) hp fun w' hp' => ih (j + 1) w' (by omega) hp'
  exact fun j w hj hp => h (N - j) j w (by omega) hp
section RowsFg
variable {G : cd_Gl} {l : Launch} {C : cd_Cx} {Q : State → Prop} {k n : Nat} {w : cd_Wd} {pc : Nat} {lv : List (Option Value)} {rest : List Value}
/-- a local that is read no more is forgotten -/
theorem g_fg (i : Nat) (h : cd_Go G l C Q k n w pc (lv.set i none) rest) : cd_Go G l C Q k n w pc lv rest := by
  intro H locs ls a1 b1 c1
  refine h H locs ls a1 b1 ⟨by rw [List.length_set]; exact c1.1, c1.2.1, fun j v hj => ?_⟩
  by_cases e : j = i
  · subst e
    have hl : j < (lv.set j none).length := (List.getElem?_eq_some_iff.mp hj).1
    rw [List.length_set] at hl
    rw [List.getElem?_set_self hl] at hj
    cases hj
  · rw [List.getElem?_set_ne (Ne.symm e)] at hj
    exact c1.2.2 j v hj
end RowsFg
/-- a step done n times -/
def itr {α : Type} (s : α → Nat → α) (a : α) : Nat → α
  | 0 => a
  | j + 1 => s (itr s a j) j
theorem itr_s {α : Type} (s : α → Nat → α) (a : α) (j : Nat) : itr s a (j + 1) = s (itr s a j) j := rfl
theorem itr_inv {α : Type} {s : α → Nat → α} {a : α} (I : α → Prop) (h0 : I a) (hs : ∀ b j, I b → I (s b j)) : ∀ n, I (itr s a n) := by
  intro n
  induction n with
  | zero => exact h0
  | succ n ih => exact hs _ _ ih
theorem itr_invL {α : Type} {s : α → Nat → α} {a : α} (N : Nat) (I : Nat → α → Prop) (h0 : I 0 a) (hs : ∀ b j, j < N → I j b → I (j + 1) (s b j)) : ∀ n, n ≤ N → I n (itr s a n) := by
  intro n
  induction n with
  | zero => intro _; exact h0
  | succ n ih => intro h; exact hs _ _ (by omega) (ih (by omega))
/-- how many below n -/
def cnt (p : Nat → Bool) : Nat → Nat
  | 0 => 0
  | j + 1 => cnt p j + (if p j then 1 else 0)
theorem cnt_t {p : Nat → Bool} {j : Nat} (h : p j = true) : cnt p (j + 1) = cnt p j + 1 := by rw [cnt, if_pos h]
theorem cnt_f {p : Nat → Bool} {j : Nat} (h : p j = false) : cnt p (j + 1) = cnt p j := by rw [cnt, if_neg (by rw [h]; decide)]; rfl
theorem cnt_le (p : Nat → Bool) (n : Nat) : cnt p n ≤ n := by
  induction n with
  | zero => exact Nat.le_refl _
  | succ n ih => rw [cnt]; split <;> omega
theorem cnt_cg {p q : Nat → Bool} {n : Nat} (h : ∀ j, j < n → p j = q j) : cnt p n = cnt q n := by
  induction n with
  | zero => rfl
  | succ n ih => rw [cnt, cnt, ih fun j hj => h j (by omega), h n (by omega)]
theorem cnt_full {p : Nat → Bool} {n : Nat} : cnt p n = n ↔ ∀ j, j < n → p j = true := by
  induction n with
  | zero => exact ⟨fun _ j h => by omega, fun _ => rfl⟩
  | succ n ih =>
    have hle := cnt_le p n
    rw [cnt]
    constructor
    · intro h
      split at h
      · next hp =>
        have h1 := ih.mp (by omega)
        intro j hj
        by_cases e : j = n
        · subst e; exact hp
        · exact h1 j (by omega)
      · omega
    · intro h
      rw [if_pos (h n (by omega)), ih.mpr fun j hj => h j (by omega)]
/-! ===== what the class's own small methods make of the state ===== -/
def zF : Int32 × Option Nat × Option Nat := (0, none, none)
/-- an object begins -/
def newO (σ : cd_S) (d o : Nat) : cd_S := itr (fun τ f => setF τ d o f zF) (setT σ d o true) 3
/-- the links of one object to t go -/
def ulF (d t o : Nat) (p : cd_S × Nat) (f : Nat) : cd_S × Nat := if (sF p.1 d o f).2.1 = some t then (setF p.1 d o f zF, p.2 + 1) else p
def ulO (d t : Nat) (p : cd_S × Nat) (o : Nat) : cd_S × Nat := if sT p.1 d o = true then itr (ulF d t o) p 3 else p
def remO (σ : cd_S) (d t : Nat) : cd_S × Nat := itr (ulO d t) (setT σ d t false, 0) 12
/-- a domain ends -/
def finD (σ : cd_S) (d : Nat) : cd_S := itr (fun τ i => setS τ d i none) (itr (fun τ o => setT τ d o false) (setE σ d true) 12) 8
/-- death spreads -/
def sp1 (p : cd_S × Nat) (c : Nat) : cd_S × Nat := if kX p.1 c = false ∧ die p.1 c = true then (setX p.1 c true, p.2 + 1) else p
def sprd (σ : cd_S) : cd_S × Nat := itr sp1 (σ, 0) (sC σ)
/-- counts that stay -/
def sDC (σ τ : cd_S) : Prop := sD τ = sD σ ∧ sC τ = sC σ
theorem va_cg {σ τ : cd_S} (h : sDC σ τ) {k d o f : Nat} : cd_va τ k d o f ↔ cd_va σ k d o f := by
  simp only [cd_va, h.1, h.2]
theorem ow_cg {x : Nat} {A : cd_A} {σ τ : cd_S} (h : sDC σ τ) (a : Nat) : cd_ow x A τ a ↔ cd_ow x A σ a := by
  simp only [cd_ow, va_cg h]
theorem fr_cg {x : Nat} {A : cd_A} {σ τ : cd_S} (h : sDC σ τ) {w w' : cd_Wd} (hF : cd_Fr w w' (cd_ow x A τ)) : cd_Fr w w' (cd_ow x A σ) := hF.up fun b _ hb => (ow_cg h b).mp hb
theorem ulO_DC (d t : Nat) (p : cd_S × Nat) (o : Nat) : sDC p.1 (ulO d t p o).1 := by
  unfold ulO
  split
  · refine itr_inv (fun q : cd_S × Nat => sDC p.1 q.1) ⟨rfl, rfl⟩ (fun b j h => ?_) 3
    unfold ulF
    split
    · exact h
    · exact h
  · exact ⟨rfl, rfl⟩
theorem remO_DC (σ : cd_S) (d t n : Nat) : sDC σ (itr (ulO d t) (setT σ d t false, 0) n).1 := by
  refine itr_inv (fun q : cd_S × Nat => sDC σ q.1) ⟨rfl, rfl⟩ (fun b j h => ?_) n
  obtain ⟨h1, h2⟩ := ulO_DC d t b j
  exact ⟨h1.trans h.1, h2.trans h.2⟩
theorem sp1_DC (p : cd_S × Nat) (c : Nat) : sDC p.1 (sp1 p c).1 := by
  unfold sp1
  split
  · exact ⟨rfl, rfl⟩
  · exact ⟨rfl, rfl⟩
theorem sprd_DC (σ : cd_S) (n : Nat) : sDC σ (itr sp1 (σ, 0) n).1 := by
  refine itr_inv (fun q : cd_S × Nat => sDC σ q.1) ⟨rfl, rfl⟩ (fun b j h => ?_) n
  obtain ⟨h1, h2⟩ := sp1_DC b j
  exact ⟨h1.trans h.1, h2.trans h.2⟩
end
section
theorem cd_l_nI {lk : Option Nat} {t : Nat} (h : ∀ t', lk = some t' → t' < 12) (ht : t < 12) : cd_l lk = nI t ↔ lk = some t := by
  cases lk with
  | none =>
    refine ⟨fun e => ?_, fun e => by cases e⟩
    exfalso
    have e3 : (nI t).toInt = (-1 : Int32).toInt := by rw [← show cd_l none = -1 from rfl, e]
    rw [nI_toInt (by omega)] at e3
    have h4 : (-1 : Int32).toInt = -1 := by decide
    omega
  | some u =>
    have hu := h u rfl
    exact ⟨fun e => by rw [(nI_eq (a := u) (b := t) (by omega) (by omega)).mp e], fun e => by cases e; rfl⟩
theorem ulF_add (d t o : Nat) (σ : cd_S) (n j : Nat) : itr (ulF d t o) (σ, n) j = ((itr (ulF d t o) (σ, 0) j).1, n + (itr (ulF d t o) (σ, 0) j).2) := by
  induction j with
  | zero => rfl
  | succ j ih =>
    rw [itr_s, itr_s, ih]
    simp only [ulF]
    split <;> simp [Nat.add_assoc]
theorem ulF_DC (d t o : Nat) (p : cd_S × Nat) (n : Nat) : sDC p.1 (itr (ulF d t o) p n).1 := by
  refine itr_inv (fun q : cd_S × Nat => sDC p.1 q.1) ⟨rfl, rfl⟩ (fun b j h => ?_) n
  unfold ulF
  split
  · exact h
  · exact h
theorem setF_DC {σ : cd_S} {d o : Nat} (n : Nat) : sDC σ (itr (fun τ f => setF τ d o f zF) σ n) := itr_inv (s := fun τ f => setF τ d o f zF) (fun q => sDC σ q) ⟨rfl, rfl⟩ (fun _ _ h => h) n
theorem setT_DC {σ : cd_S} {d : Nat} {b : Bool} (n : Nat) : sDC σ (itr (fun τ o => setT τ d o b) σ n) := itr_inv (s := fun τ o => setT τ d o b) (fun q => sDC σ q) ⟨rfl, rfl⟩ (fun _ _ h => h) n
theorem setS_DC {σ : cd_S} {d : Nat} {b : Option Nat} (n : Nat) : sDC σ (itr (fun τ o => setS τ d o b) σ n) := itr_inv (s := fun τ o => setS τ d o b) (fun q => sDC σ q) ⟨rfl, rfl⟩ (fun _ _ h => h) n
theorem newO_DC (σ : cd_S) (d o : Nat) : sDC σ (newO σ d o) := setF_DC 3
theorem finD_DC (σ : cd_S) (d : Nat) : sDC σ (finD σ d) := by
  obtain ⟨h1, h2⟩ := setS_DC (σ := itr (fun τ o => setT τ d o false) (setE σ d true) 12) (d := d) (b := none) 8
  obtain ⟨h3, h4⟩ := setT_DC (σ := setE σ d true) (d := d) (b := false) 12
  exact ⟨h1.trans h3, h2.trans h4⟩
theorem fr_fN {w : cd_Wd} {P : Nat → Prop} {a : Nat} {v : Int32} (h : P a) : cd_Fr w (cd_fN w a v) P := (cd_Fr.wI h).tr ((cd_Fr.wI h).tr (cd_Fr.wO h))
theorem fr_fL {w : cd_Wd} {P : Nat → Prop} {a : Nat} {v : Int32} (h : P a) : cd_Fr w (cd_fL w a v) P := (cd_Fr.wI h).tr ((cd_Fr.wI h).tr (cd_Fr.wO h))
theorem fr_fC {w : cd_Wd} {P : Nat → Prop} {a c : Nat} (h : P a) : cd_Fr w (cd_fC w a c) P := (cd_Fr.wI h).tr ((cd_Fr.wI h).tr (cd_Fr.wO h))
theorem rep_fN {w : cd_Wd} {x : Nat} {A : cd_A} {σ : cd_S} (h : cd_Rep w x A σ) {d o f : Nat} (hd : d < sD σ) (ho : o < 12) (hf : f < 3) (v : Int32) : cd_Rep (cd_fN w (A 6 d o f) v) x A (setF σ d o f (v, none, none)) := rep_F h hd ho hf (lk := none) (cp := none) (fun _ h => by cases h) (fun _ h => by cases h)
theorem rep_fL {w : cd_Wd} {x : Nat} {A : cd_A} {σ : cd_S} (h : cd_Rep w x A σ) {d o f : Nat} (hd : d < sD σ) (ho : o < 12) (hf : f < 3) {t : Nat} (ht : t < 12) : cd_Rep (cd_fL w (A 6 d o f) (nI t)) x A (setF σ d o f (0, some t, none)) := rep_F h hd ho hf (lk := some t) (cp := none) (fun _ h => by cases h; exact ht) (fun _ h => by cases h)
theorem rep_fC {w : cd_Wd} {x : Nat} {A : cd_A} {σ : cd_S} (h : cd_Rep w x A σ) {d o f : Nat} (hd : d < sD σ) (ho : o < 12) (hf : f < 3) {c : Nat} (hc : c < sC σ) : cd_Rep (cd_fC w (A 6 d o f) (A 8 c 0 0)) x A (setF σ d o f (0, none, some c)) := rep_F h hd ho hf (lk := none) (cp := some c) (fun _ h => by cases h) (fun _ h => by cases h; exact hc)
set_option maxHeartbeats 4000000 in
set_option maxRecDepth 100000 in
theorem ct_Ob_begin {G : cd_Gl} {l : Launch} {w : cd_Wd} {Q : cd_Out → cd_Wd → Prop} {x : Nat} {A : cd_A} {σ : cd_S} (hR : cd_Rep w x A σ) {d o : Nat} (hd : d < sD σ) (ho : o < 12) (h : ∀ w', cd_Rep w' x A (newO σ d o) → cd_Fr w w' (cd_ow x A σ) → Q (.inl none) w') : cd_Ct G l y_Ob_begin 1 0 0 [.ref (A 4 d o 0)] w Q := by
  refine cd_ofW cw_Ob_begin (by simp [Value.category, cat_rf]) (Nat.le_of_ble_eq_true rfl) fun C O => ?_
  change cd_Go G l C _ 0 0 w 0 [some (.ref (A 4 d o 0)), none] []
  have loop : ∀ (j : Nat) (v : cd_Wd), j ≤ 3 → (cd_Rep v x A (itr (fun τ f => setF τ d o f zF) (setT σ d o true) j) ∧ cd_Fr w v (cd_ow x A σ)) → cd_Go G l C (cd_MQ G (cx_s C) (cx_b C) 0 0 Q) (0) (0) v 7 [some (.ref (A 4 d o 0)), some (.int (nI j))] [] := by
    refine lp (3) (P := fun j v => cd_Rep v x A (itr (fun τ f => setF τ d o f zF) (setT σ d o true) j) ∧ cd_Fr w v (cd_ow x A σ)) (g := fun j v => cd_Go G l C (cd_MQ G (cx_s C) (cx_b C) 0 0 Q) (0) (0) v 7 [some (.ref (A 4 d o 0)), some (.int (nI j))] []) (fun v hP => ?_) (fun j v hj hP ih => ?_)
    · skip
      refine g_iload_n O 1 d_Ob_begin_7 rfl rfl ?_
      refine g_iconst (v := 3) O d_Ob_begin_8 (by decide) ?_
      refine g_icmp_ge O 28 d_Ob_begin_9 (by decide) (fun c9 => ?_) (fun c9 => ?_)
      · refine g_ret O d_Ob_begin_28 (Nat.le_of_ble_eq_true rfl) (Nat.le_of_ble_eq_true rfl) ?_
        exact h v hP.1 hP.2
      · exact absurd (show (3 : Int32) ≤ nI 3 from by decide) c9
    · skip
      obtain ⟨hR, hF⟩ := hP
      have hd1 : d < sD (itr (fun τ f => setF τ d o f zF) (setT σ d o true) j) := by rw [(setF_DC j).1]; exact hd
      refine g_iload_n O 1 d_Ob_begin_7 rfl rfl ?_
      refine g_iconst (v := 3) O d_Ob_begin_8 (by decide) ?_
      refine g_icmp_ge O 28 d_Ob_begin_9 (by decide) (fun c9 => ?_) (fun c9 => ?_)
      · exact absurd c9 (nI_ge (b := 3) hj (by omega))
      · first | refine g_aload_n O 0 d_Ob_begin_12 rfl rfl ?_ | refine g_aload_nq O 0 d_Ob_begin_12 rfl rfl ?_
        refine g_getS O c_Ob 1 (by decide) rfl (hR.o hd1 ho).2.1 lk_Ob_11 d_Ob_begin_13 (hR.o hd1 ho).2.2.2.1 ?_
        refine g_iload_n O 1 d_Ob_begin_16 rfl rfl ?_
        refine g_aaldS O 5 rfl rfl (hR.o hd1 ho).2.2.2.2.1 (by rw [(hR.o hd1 ho).2.2.2.2.2]; exact ix_in hj (by omega)) d_Ob_begin_17 (by rw [cl_nI (by omega)]; exact (hR.f hd1 ho hj).1) ?_
        refine g_iconst (v := 0) O d_Ob_begin_18 (by decide) ?_
        refine g_callv (N := 0) (mc := 0) (ms := 0) (av := [_]) O (Or.inl ⟨_, _, cw_Fi_becomeNumber⟩) pl_Fi (ci := 3) (q := q_Fi) rfl (hR.f hd1 ho hj).2.1 ml_Ob_22 im_Fi_becomeNumber se_Fi_becomeNumber rfl d_Ob_begin_19 rfl (Nat.le_of_ble_eq_true rfl) (Nat.le_of_ble_eq_true rfl) (Nat.le_of_ble_eq_true rfl) (Nat.le_of_ble_eq_true rfl) ?_
        refine ct_Fi_becomeNumber (hR.f hd1 ho hj).2.1 ?_
        change cd_Go _ _ _ _ _ _ _ _ _ _
        first | refine g_iinc O d_Ob_begin_22 rfl (ic1 _) ?_ | refine g_iinc O d_Ob_begin_22 rfl rfl ?_
        refine g_goto O 7 d_Ob_begin_25 (by decide) ?_
        exact ih _ ⟨rep_fN hR hd1 ho hj 0, hF.tr (fr_fN (ow_at (k := 6) ⟨hd, ho, hj⟩))⟩
  first | refine g_aload_n O 0 d_Ob_begin_0 rfl rfl ?_ | refine g_aload_nq O 0 d_Ob_begin_0 rfl rfl ?_
  refine g_iconst (v := 1) O d_Ob_begin_1 (by decide) ?_
  refine g_putI O c_Ob 0 (by decide) rfl (hR.o hd ho).2.1 (Or.inr (by first | exact Or.inl rfl | exact Or.inr rfl | assumption)) (Or.inl rfl) lk_Ob_18 d_Ob_begin_2 ?_
  refine g_iconst (v := 0) O d_Ob_begin_5 (by decide) ?_
  refine g_istore_n O 1 d_Ob_begin_6 rfl (Nat.le_of_ble_eq_true rfl) ?_
  exact loop 0 _ (by omega) ⟨rep_T hR hd ho true, cd_Fr.wI (ow_at (k := 4) ⟨hd, ho, rfl⟩)⟩
set_option maxHeartbeats 4000000 in
set_option maxRecDepth 100000 in
theorem ct_Ob_unlink {G : cd_Gl} {l : Launch} {w : cd_Wd} {Q : cd_Out → cd_Wd → Prop} {x : Nat} {A : cd_A} {σ : cd_S} (hR : cd_Rep w x A σ) {d o t : Nat} (hd : d < sD σ) (ho : o < 12) (ht : t < 12) (h : ∀ w', cd_Rep w' x A (itr (ulF d t o) (σ, 0) 3).1 → cd_Fr w w' (cd_ow x A σ) → Q (.inl (some (.int (nI (itr (ulF d t o) (σ, 0) 3).2)))) w') : cd_Ct G l y_Ob_unlink 1 0 0 [.ref (A 4 d o 0), .int (nI t)] w Q := by
  refine cd_ofW cw_Ob_unlink (by simp [Value.category, cat_rf]) (Nat.le_of_ble_eq_true rfl) fun C O => ?_
  change cd_Go G l C _ 0 0 w 0 [some (.ref (A 4 d o 0)), some (.int (nI t)), none, none] []
  have loop : ∀ (j : Nat) (v : cd_Wd), j ≤ 3 → (cd_Rep v x A (itr (ulF d t o) (σ, 0) j).1 ∧ cd_Fr w v (cd_ow x A σ)) → cd_Go G l C (cd_MQ G (cx_s C) (cx_b C) 0 0 Q) (0) (0) v 4 [some (.ref (A 4 d o 0)), some (.int (nI t)), some (.int (nI (itr (ulF d t o) (σ, 0) j).2)), some (.int (nI j))] [] := by
    refine lp (3) (P := fun j v => cd_Rep v x A (itr (ulF d t o) (σ, 0) j).1 ∧ cd_Fr w v (cd_ow x A σ)) (g := fun j v => cd_Go G l C (cd_MQ G (cx_s C) (cx_b C) 0 0 Q) (0) (0) v 4 [some (.ref (A 4 d o 0)), some (.int (nI t)), some (.int (nI (itr (ulF d t o) (σ, 0) j).2)), some (.int (nI j))] []) (fun v hP => ?_) (fun j v hj hP ih => ?_)
    · skip
      refine g_iload_n O 3 d_Ob_unlink_4 rfl rfl ?_
      refine g_iconst (v := 3) O d_Ob_unlink_5 (by decide) ?_
      refine g_icmp_ge O 41 d_Ob_unlink_6 (by decide) (fun c6 => ?_) (fun c6 => ?_)
      · refine g_iload_n O 2 d_Ob_unlink_41 rfl rfl ?_
        refine g_iret O d_Ob_unlink_42 (Nat.le_of_ble_eq_true rfl) (Nat.le_of_ble_eq_true rfl) ?_
        exact h v hP.1 hP.2
      · exact absurd (show (3 : Int32) ≤ nI 3 from by decide) c6
    · skip
      obtain ⟨hR, hF⟩ := hP
      have hd1 : d < sD (itr (ulF d t o) (σ, 0) j).1 := by rw [(ulF_DC d t o (σ, 0) j).1]; exact hd
      have hlk : ∀ t', (sF (itr (ulF d t o) (σ, 0) j).1 d o j).2.1 = some t' → t' < 12 := fun t' => hR.wf.2.2.1 d o j t' hd1 ho hj
      refine g_iload_n O 3 d_Ob_unlink_4 rfl rfl ?_
      refine g_iconst (v := 3) O d_Ob_unlink_5 (by decide) ?_
      refine g_icmp_ge O 41 d_Ob_unlink_6 (by decide) (fun c6 => ?_) (fun c6 => ?_)
      · exact absurd c6 (nI_ge (b := 3) hj (by omega))
      · first | refine g_aload_n O 0 d_Ob_unlink_9 rfl rfl ?_ | refine g_aload_nq O 0 d_Ob_unlink_9 rfl rfl ?_
        refine g_getS O c_Ob 1 (by decide) rfl (hR.o hd1 ho).2.1 lk_Ob_11 d_Ob_unlink_10 (hR.o hd1 ho).2.2.2.1 ?_
        refine g_iload_n O 3 d_Ob_unlink_13 rfl rfl ?_
        refine g_aaldS O 5 rfl rfl (hR.o hd1 ho).2.2.2.2.1 (by rw [(hR.o hd1 ho).2.2.2.2.2]; exact ix_in hj (by omega)) d_Ob_unlink_14 (by rw [cl_nI (by omega)]; exact (hR.f hd1 ho hj).1) ?_
        refine g_getV O c_Fi 1 (by decide) rfl (hR.f hd1 ho hj).2.1 lk_Ob_26 d_Ob_unlink_15 (hR.f hd1 ho hj).2.2.2.1 ?_
        refine g_iload_n O 1 d_Ob_unlink_18 rfl rfl ?_
        refine g_icmp_ne O 35 d_Ob_unlink_19 (by decide) (fun c19 => ?_) (fun c19 => ?_)
        · have hne : ¬ (sF (itr (ulF d t o) (σ, 0) j).1 d o j).2.1 = some t := fun z => c19 ((cd_l_nI hlk ht).mpr z)
          have e1 : itr (ulF d t o) (σ, 0) (j + 1) = itr (ulF d t o) (σ, 0) j := by rw [itr_s]; exact if_neg hne
          first | refine g_iinc O d_Ob_unlink_35 rfl (ic1 _) ?_ | refine g_iinc O d_Ob_unlink_35 rfl rfl ?_
          refine g_goto O 4 d_Ob_unlink_38 (by decide) ?_
          first
            | (have e := ih _ ⟨by rw [e1]; exact hR, hF⟩
               rw [e1] at e
               exact e)
            | (have e := ih _ ⟨by rw [e1]; exact rep_fN hR hd1 ho hj 0, hF.tr (fr_fN (ow_at (k := 6) ⟨hd, ho, hj⟩))⟩
               rw [e1] at e
               exact e)
        · have hne : (sF (itr (ulF d t o) (σ, 0) j).1 d o j).2.1 = some t := (cd_l_nI hlk ht).mp c19
          have e1 : itr (ulF d t o) (σ, 0) (j + 1) = (setF (itr (ulF d t o) (σ, 0) j).1 d o j zF, (itr (ulF d t o) (σ, 0) j).2 + 1) := by rw [itr_s]; exact if_pos hne
          first | refine g_aload_n O 0 d_Ob_unlink_22 rfl rfl ?_ | refine g_aload_nq O 0 d_Ob_unlink_22 rfl rfl ?_
          refine g_getS O c_Ob 1 (by decide) rfl (hR.o hd1 ho).2.1 lk_Ob_11 d_Ob_unlink_23 (hR.o hd1 ho).2.2.2.1 ?_
          refine g_iload_n O 3 d_Ob_unlink_26 rfl rfl ?_
          refine g_aaldS O 5 rfl rfl (hR.o hd1 ho).2.2.2.2.1 (by rw [(hR.o hd1 ho).2.2.2.2.2]; exact ix_in hj (by omega)) d_Ob_unlink_27 (by rw [cl_nI (by omega)]; exact (hR.f hd1 ho hj).1) ?_
          refine g_iconst (v := 0) O d_Ob_unlink_28 (by decide) ?_
          refine g_callv (N := 0) (mc := 0) (ms := 0) (av := [_]) O (Or.inl ⟨_, _, cw_Fi_becomeNumber⟩) pl_Fi (ci := 3) (q := q_Fi) rfl (hR.f hd1 ho hj).2.1 ml_Ob_22 im_Fi_becomeNumber se_Fi_becomeNumber rfl d_Ob_unlink_29 rfl (Nat.le_of_ble_eq_true rfl) (Nat.le_of_ble_eq_true rfl) (Nat.le_of_ble_eq_true rfl) (Nat.le_of_ble_eq_true rfl) ?_
          refine ct_Fi_becomeNumber (hR.f hd1 ho hj).2.1 ?_
          change cd_Go _ _ _ _ _ _ _ _ _ _
          first | refine g_iinc O d_Ob_unlink_32 rfl (ic1 _) ?_ | refine g_iinc O d_Ob_unlink_32 rfl rfl ?_
          first | refine g_iinc O d_Ob_unlink_35 rfl (ic1 _) ?_ | refine g_iinc O d_Ob_unlink_35 rfl rfl ?_
          refine g_goto O 4 d_Ob_unlink_38 (by decide) ?_
          first
            | (have e := ih _ ⟨by rw [e1]; exact hR, hF⟩
               rw [e1] at e
               exact e)
            | (have e := ih _ ⟨by rw [e1]; exact rep_fN hR hd1 ho hj 0, hF.tr (fr_fN (ow_at (k := 6) ⟨hd, ho, hj⟩))⟩
               rw [e1] at e
               exact e)
  refine g_iconst (v := 0) O d_Ob_unlink_0 (by decide) ?_
  refine g_istore_n O 2 d_Ob_unlink_1 rfl (Nat.le_of_ble_eq_true rfl) ?_
  refine g_iconst (v := 0) O d_Ob_unlink_2 (by decide) ?_
  refine g_istore_n O 3 d_Ob_unlink_3 rfl (Nat.le_of_ble_eq_true rfl) ?_
  exact loop 0 _ (by omega) ⟨hR, cd_Fr.rf⟩
set_option maxHeartbeats 4000000 in
set_option maxRecDepth 100000 in
theorem ct_Do_objectCount {G : cd_Gl} {l : Launch} {w : cd_Wd} {Q : cd_Out → cd_Wd → Prop} {x : Nat} {A : cd_A} {σ : cd_S} (hR : cd_Rep w x A σ) {d : Nat} (hd : d < sD σ) (h : Q (.inl (some (.int (nI (cnt (sT σ d) 12))))) w) : cd_Ct G l y_Do_objectCount 0 0 0 [.ref (A 1 d 0 0)] w Q := by
  refine cd_ofW cw_Do_objectCount (by simp [Value.category, cat_rf]) (Nat.le_of_ble_eq_true rfl) fun C O => ?_
  change cd_Go G l C _ 0 0 w 0 [some (.ref (A 1 d 0 0)), none, none] []
  have loop : ∀ (j : Nat) (v : cd_Wd), j ≤ 12 → (v = w) → cd_Go G l C (cd_MQ G (cx_s C) (cx_b C) 0 0 Q) (0) (0) v 4 [some (.ref (A 1 d 0 0)), some (.int (nI (cnt (sT σ d) j))), some (.int (nI j))] [] := by
    refine lp (12) (P := fun j v => v = w) (g := fun j v => cd_Go G l C (cd_MQ G (cx_s C) (cx_b C) 0 0 Q) (0) (0) v 4 [some (.ref (A 1 d 0 0)), some (.int (nI (cnt (sT σ d) j))), some (.int (nI j))] []) (fun v hP => ?_) (fun j v hj hP ih => ?_)
    · skip
      subst hP
      refine g_iload_n O 2 d_Do_objectCount_4 rfl rfl ?_
      refine g_bipush (v := 12) O d_Do_objectCount_5 (by decide) ?_
      refine g_icmp_ge O 31 d_Do_objectCount_7 (by decide) (fun c7 => ?_) (fun c7 => ?_)
      · refine g_iload_n O 1 d_Do_objectCount_31 rfl rfl ?_
        refine g_iret O d_Do_objectCount_32 (Nat.le_of_ble_eq_true rfl) (Nat.le_of_ble_eq_true rfl) ?_
        exact h
      · exact absurd (show (12 : Int32) ≤ nI 12 from by decide) c7
    · skip
      subst hP
      refine g_iload_n O 2 d_Do_objectCount_4 rfl rfl ?_
      refine g_bipush (v := 12) O d_Do_objectCount_5 (by decide) ?_
      refine g_icmp_ge O 31 d_Do_objectCount_7 (by decide) (fun c7 => ?_) (fun c7 => ?_)
      · exact absurd c7 (nI_ge (b := 12) hj (by omega))
      · first | refine g_aload_n O 0 d_Do_objectCount_10 rfl rfl ?_ | refine g_aload_nq O 0 d_Do_objectCount_10 rfl rfl ?_
        refine g_getS O c_Do 1 (by decide) rfl (hR.d hd).2.1 lk_Do_11 d_Do_objectCount_11 (hR.d hd).2.2.1 ?_
        refine g_iload_n O 2 d_Do_objectCount_14 rfl rfl ?_
        refine g_aaldS O 4 rfl rfl (hR.d hd).2.2.2.1 (by rw [(hR.d hd).2.2.2.2.1]; exact ix_in hj (by omega)) d_Do_objectCount_15 (by rw [cl_nI (by omega)]; exact (hR.o hd hj).1) ?_
        refine g_getV O c_Ob 0 (by decide) rfl (hR.o hd hj).2.1 lk_Do_24 d_Do_objectCount_16 (hR.o hd hj).2.2.1 ?_
        refine g_if_eq O 25 d_Do_objectCount_19 (by decide) (fun c19 => ?_) (fun c19 => ?_)
        · have e1 := cnt_f (cd_b_eq.mp c19)
          first | refine g_iinc O d_Do_objectCount_25 rfl (ic1 _) ?_ | refine g_iinc O d_Do_objectCount_25 rfl rfl ?_
          refine g_goto O 4 d_Do_objectCount_28 (by decide) ?_
          have e := ih v rfl
          rw [e1] at e
          exact e
        · have e1 := cnt_t (cd_b_ne.mp c19)
          first | refine g_iinc O d_Do_objectCount_22 rfl (ic1 _) ?_ | refine g_iinc O d_Do_objectCount_22 rfl rfl ?_
          first | refine g_iinc O d_Do_objectCount_25 rfl (ic1 _) ?_ | refine g_iinc O d_Do_objectCount_25 rfl rfl ?_
          refine g_goto O 4 d_Do_objectCount_28 (by decide) ?_
          have e := ih v rfl
          rw [e1] at e
          exact e
  refine g_iconst (v := 0) O d_Do_objectCount_0 (by decide) ?_
  refine g_istore_n O 1 d_Do_objectCount_1 rfl (Nat.le_of_ble_eq_true rfl) ?_
  refine g_iconst (v := 0) O d_Do_objectCount_2 (by decide) ?_
  refine g_istore_n O 2 d_Do_objectCount_3 rfl (Nat.le_of_ble_eq_true rfl) ?_
  exact loop 0 _ (by omega) rfl
set_option maxHeartbeats 4000000 in
set_option maxRecDepth 100000 in
theorem ct_Do_makeObject {G : cd_Gl} {l : Launch} {w : cd_Wd} {Q : cd_Out → cd_Wd → Prop} {x : Nat} {A : cd_A} {σ : cd_S} (hR : cd_Rep w x A σ) {d : Nat} (hd : d < sD σ) (h1 : ∀ o, o < 12 → sT σ d o = false → (∀ i, i < o → sT σ d i = true) → ∀ w', cd_Rep w' x A (newO σ d o) → cd_Fr w w' (cd_ow x A σ) → Q (.inl (some (.int (nI o)))) w') (h2 : (∀ i, i < 12 → sT σ d i = true) → Q (.inl (some (.int (-1)))) w) : cd_Ct G l y_Do_makeObject 2 0 0 [.ref (A 1 d 0 0)] w Q := by
  refine cd_ofW cw_Do_makeObject (by simp [Value.category, cat_rf]) (Nat.le_of_ble_eq_true rfl) fun C O => ?_
  change cd_Go G l C _ 0 0 w 0 [some (.ref (A 1 d 0 0)), none] []
  have loop : ∀ (j : Nat) (v : cd_Wd), j ≤ 12 → (v = w ∧ ∀ i, i < j → sT σ d i = true) → cd_Go G l C (cd_MQ G (cx_s C) (cx_b C) 0 0 Q) (0) (0) v 2 [some (.ref (A 1 d 0 0)), some (.int (nI j))] [] := by
    refine lp (12) (P := fun j v => v = w ∧ ∀ i, i < j → sT σ d i = true) (g := fun j v => cd_Go G l C (cd_MQ G (cx_s C) (cx_b C) 0 0 Q) (0) (0) v 2 [some (.ref (A 1 d 0 0)), some (.int (nI j))] []) (fun v hP => ?_) (fun j v hj hP ih => ?_)
    · skip
      obtain ⟨rfl, hP⟩ := hP
      refine g_iload_n O 1 d_Do_makeObject_2 rfl rfl ?_
      refine g_bipush (v := 12) O d_Do_makeObject_3 (by decide) ?_
      refine g_icmp_ge O 37 d_Do_makeObject_5 (by decide) (fun c5 => ?_) (fun c5 => ?_)
      · refine g_iconst (v := -1) O d_Do_makeObject_37 (by decide) ?_
        refine g_iret O d_Do_makeObject_38 (Nat.le_of_ble_eq_true rfl) (Nat.le_of_ble_eq_true rfl) ?_
        exact h2 hP
      · exact absurd (show (12 : Int32) ≤ nI 12 from by decide) c5
    · skip
      obtain ⟨rfl, hP⟩ := hP
      have hP := And.intro True.intro hP
      refine g_iload_n O 1 d_Do_makeObject_2 rfl rfl ?_
      refine g_bipush (v := 12) O d_Do_makeObject_3 (by decide) ?_
      refine g_icmp_ge O 37 d_Do_makeObject_5 (by decide) (fun c5 => ?_) (fun c5 => ?_)
      · exact absurd c5 (nI_ge (b := 12) hj (by omega))
      · first | refine g_aload_n O 0 d_Do_makeObject_8 rfl rfl ?_ | refine g_aload_nq O 0 d_Do_makeObject_8 rfl rfl ?_
        refine g_getS O c_Do 1 (by decide) rfl (hR.d hd).2.1 lk_Do_11 d_Do_makeObject_9 (hR.d hd).2.2.1 ?_
        refine g_iload_n O 1 d_Do_makeObject_12 rfl rfl ?_
        refine g_aaldS O 4 rfl rfl (hR.d hd).2.2.2.1 (by rw [(hR.d hd).2.2.2.2.1]; exact ix_in hj (by omega)) d_Do_makeObject_13 (by rw [cl_nI (by omega)]; exact (hR.o hd hj).1) ?_
        refine g_getV O c_Ob 0 (by decide) rfl (hR.o hd hj).2.1 lk_Do_24 d_Do_makeObject_14 (hR.o hd hj).2.2.1 ?_
        refine g_if_ne O 31 d_Do_makeObject_17 (by decide) (fun c17 => ?_) (fun c17 => ?_)
        · first | refine g_iinc O d_Do_makeObject_31 rfl (ic1 _) ?_ | refine g_iinc O d_Do_makeObject_31 rfl rfl ?_
          refine g_goto O 2 d_Do_makeObject_34 (by decide) ?_
          refine ih v ⟨rfl, fun i hi => ?_⟩
          by_cases e : i = j
          · subst e; exact cd_b_ne.mp c17
          · exact hP.2 i (by omega)
        · have h1 := h1 j hj (cd_b_eq.mp c17) hP.2
          first | refine g_aload_n O 0 d_Do_makeObject_20 rfl rfl ?_ | refine g_aload_nq O 0 d_Do_makeObject_20 rfl rfl ?_
          refine g_getS O c_Do 1 (by decide) rfl (hR.d hd).2.1 lk_Do_11 d_Do_makeObject_21 (hR.d hd).2.2.1 ?_
          refine g_iload_n O 1 d_Do_makeObject_24 rfl rfl ?_
          refine g_aaldS O 4 rfl rfl (hR.d hd).2.2.2.1 (by rw [(hR.d hd).2.2.2.2.1]; exact ix_in hj (by omega)) d_Do_makeObject_25 (by rw [cl_nI (by omega)]; exact (hR.o hd hj).1) ?_
          refine g_callv (N := 1) (mc := 0) (ms := 0) (av := []) O (Or.inl ⟨_, _, cw_Ob_begin⟩) pl_Ob (ci := 2) (q := q_Ob) rfl (hR.o hd hj).2.1 ml_Do_28 im_Ob_begin se_Ob_begin rfl d_Do_makeObject_26 rfl (Nat.le_of_ble_eq_true rfl) (Nat.le_of_ble_eq_true rfl) (Nat.le_of_ble_eq_true rfl) (Nat.le_of_ble_eq_true rfl) ?_
          refine ct_Ob_begin hR hd hj (fun w' hR' hF' => ?_)
          change cd_Go _ _ _ _ _ _ _ _ _ _
          refine g_iload_n O 1 d_Do_makeObject_29 rfl rfl ?_
          refine g_iret O d_Do_makeObject_30 (Nat.le_of_ble_eq_true rfl) (Nat.le_of_ble_eq_true rfl) ?_
          exact h1 w' hR' hF'
  refine g_iconst (v := 0) O d_Do_makeObject_0 (by decide) ?_
  refine g_istore_n O 1 d_Do_makeObject_1 rfl (Nat.le_of_ble_eq_true rfl) ?_
  exact loop 0 _ (by omega) ⟨rfl, fun i hi => by omega⟩
theorem ulO_t {d t j : Nat} {p : cd_S × Nat} (h : sT p.1 d j = true) : ulO d t p j = ((itr (ulF d t j) (p.1, 0) 3).1, p.2 + (itr (ulF d t j) (p.1, 0) 3).2) := by
  unfold ulO
  rw [if_pos h]
  exact ulF_add d t j p.1 p.2 3
set_option maxHeartbeats 4000000 in
set_option maxRecDepth 100000 in
theorem ct_Do_removeObject {G : cd_Gl} {l : Launch} {w : cd_Wd} {Q : cd_Out → cd_Wd → Prop} {x : Nat} {A : cd_A} {σ : cd_S} (hR : cd_Rep w x A σ) {d t : Nat} (hd : d < sD σ) (ht : t < 12) (h : ∀ w', cd_Rep w' x A (remO σ d t).1 → cd_Fr w w' (cd_ow x A σ) → Q (.inl (some (.int (nI (remO σ d t).2)))) w') : cd_Ct G l y_Do_removeObject 2 0 0 [.ref (A 1 d 0 0), .int (nI t)] w Q := by
  refine cd_ofW cw_Do_removeObject (by simp [Value.category, cat_rf]) (Nat.le_of_ble_eq_true rfl) fun C O => ?_
  change cd_Go G l C _ 0 0 w 0 [some (.ref (A 1 d 0 0)), some (.int (nI t)), none, none] []
  have loop : ∀ (j : Nat) (v : cd_Wd), j ≤ 12 → (cd_Rep v x A (itr (ulO d t) (setT σ d t false, 0) j).1 ∧ cd_Fr w v (cd_ow x A σ)) → cd_Go G l C (cd_MQ G (cx_s C) (cx_b C) 0 0 Q) (0) (0) v 14 [some (.ref (A 1 d 0 0)), some (.int (nI t)), some (.int (nI (itr (ulO d t) (setT σ d t false, 0) j).2)), some (.int (nI j))] [] := by
    refine lp (12) (P := fun j v => cd_Rep v x A (itr (ulO d t) (setT σ d t false, 0) j).1 ∧ cd_Fr w v (cd_ow x A σ)) (g := fun j v => cd_Go G l C (cd_MQ G (cx_s C) (cx_b C) 0 0 Q) (0) (0) v 14 [some (.ref (A 1 d 0 0)), some (.int (nI t)), some (.int (nI (itr (ulO d t) (setT σ d t false, 0) j).2)), some (.int (nI j))] []) (fun v hP => ?_) (fun j v hj hP ih => ?_)
    · skip
      refine g_iload_n O 3 d_Do_removeObject_14 rfl rfl ?_
      refine g_bipush (v := 12) O d_Do_removeObject_15 (by decide) ?_
      refine g_icmp_ge O 51 d_Do_removeObject_17 (by decide) (fun c17 => ?_) (fun c17 => ?_)
      · refine g_iload_n O 2 d_Do_removeObject_51 rfl rfl ?_
        refine g_iret O d_Do_removeObject_52 (Nat.le_of_ble_eq_true rfl) (Nat.le_of_ble_eq_true rfl) ?_
        exact h v hP.1 hP.2
      · exact absurd (show (12 : Int32) ≤ nI 12 from by decide) c17
    · skip
      obtain ⟨hR, hF⟩ := hP
      have hDC := remO_DC σ d t j
      have hd1 : d < sD (itr (ulO d t) (setT σ d t false, 0) j).1 := by rw [hDC.1]; exact hd
      refine g_iload_n O 3 d_Do_removeObject_14 rfl rfl ?_
      refine g_bipush (v := 12) O d_Do_removeObject_15 (by decide) ?_
      refine g_icmp_ge O 51 d_Do_removeObject_17 (by decide) (fun c17 => ?_) (fun c17 => ?_)
      · exact absurd c17 (nI_ge (b := 12) hj (by omega))
      · first | refine g_aload_n O 0 d_Do_removeObject_20 rfl rfl ?_ | refine g_aload_nq O 0 d_Do_removeObject_20 rfl rfl ?_
        refine g_getS O c_Do 1 (by decide) rfl (hR.d hd1).2.1 lk_Do_11 d_Do_removeObject_21 (hR.d hd1).2.2.1 ?_
        refine g_iload_n O 3 d_Do_removeObject_24 rfl rfl ?_
        refine g_aaldS O 4 rfl rfl (hR.d hd1).2.2.2.1 (by rw [(hR.d hd1).2.2.2.2.1]; exact ix_in hj (by omega)) d_Do_removeObject_25 (by rw [cl_nI (by omega)]; exact (hR.o hd1 hj).1) ?_
        refine g_getV O c_Ob 0 (by decide) rfl (hR.o hd1 hj).2.1 lk_Do_24 d_Do_removeObject_26 (hR.o hd1 hj).2.2.1 ?_
        refine g_if_eq O 45 d_Do_removeObject_29 (by decide) (fun c29 => ?_) (fun c29 => ?_)
        · have e1 : itr (ulO d t) (setT σ d t false, 0) (j + 1) = (itr (ulO d t) (setT σ d t false, 0) j) := by rw [itr_s]; exact if_neg (by rw [cd_b_eq.mp c29]; decide)
          first | refine g_iinc O d_Do_removeObject_45 rfl (ic1 _) ?_ | refine g_iinc O d_Do_removeObject_45 rfl rfl ?_
          refine g_goto O 14 d_Do_removeObject_48 (by decide) ?_
          first
            | (have e := ih _ ⟨by rw [e1]; exact hR, hF⟩
               rw [e1] at e
               exact e)
            | (have e := ih _ ⟨by rw [e1]; exact hR', hF.tr (fr_cg hDC hF')⟩
               rw [e1] at e
               exact e)
        · have e1 : itr (ulO d t) (setT σ d t false, 0) (j + 1) = ((itr (ulF d t j) ((itr (ulO d t) (setT σ d t false, 0) j).1, 0) 3).1, (itr (ulO d t) (setT σ d t false, 0) j).2 + (itr (ulF d t j) ((itr (ulO d t) (setT σ d t false, 0) j).1, 0) 3).2) := ulO_t (cd_b_ne.mp c29)
          refine g_iload_n O 2 d_Do_removeObject_32 rfl rfl ?_
          first | refine g_aload_n O 0 d_Do_removeObject_33 rfl rfl ?_ | refine g_aload_nq O 0 d_Do_removeObject_33 rfl rfl ?_
          refine g_getS O c_Do 1 (by decide) rfl (hR.d hd1).2.1 lk_Do_11 d_Do_removeObject_34 (hR.d hd1).2.2.1 ?_
          refine g_iload_n O 3 d_Do_removeObject_37 rfl rfl ?_
          refine g_aaldS O 4 rfl rfl (hR.d hd1).2.2.2.1 (by rw [(hR.d hd1).2.2.2.2.1]; exact ix_in hj (by omega)) d_Do_removeObject_38 (by rw [cl_nI (by omega)]; exact (hR.o hd1 hj).1) ?_
          refine g_iload_n O 1 d_Do_removeObject_39 rfl rfl ?_
          refine g_callv (N := 1) (mc := 0) (ms := 0) (av := [_]) O (Or.inl ⟨_, _, cw_Ob_unlink⟩) pl_Ob (ci := 2) (q := q_Ob) rfl (hR.o hd1 hj).2.1 ml_Do_31 im_Ob_unlink se_Ob_unlink rfl d_Do_removeObject_40 rfl (Nat.le_of_ble_eq_true rfl) (Nat.le_of_ble_eq_true rfl) (Nat.le_of_ble_eq_true rfl) (Nat.le_of_ble_eq_true rfl) ?_
          refine ct_Ob_unlink hR hd1 hj ht (fun w' hR' hF' => ?_)
          change cd_Go _ _ _ _ _ _ _ _ _ _
          refine g_iadd O d_Do_removeObject_43 ?_
          rw [nI_add]
          refine g_istore_n O 2 d_Do_removeObject_44 rfl (Nat.le_of_ble_eq_true rfl) ?_
          first | refine g_iinc O d_Do_removeObject_45 rfl (ic1 _) ?_ | refine g_iinc O d_Do_removeObject_45 rfl rfl ?_
          refine g_goto O 14 d_Do_removeObject_48 (by decide) ?_
          first
            | (have e := ih _ ⟨by rw [e1]; exact hR, hF⟩
               rw [e1] at e
               exact e)
            | (have e := ih _ ⟨by rw [e1]; exact hR', hF.tr (fr_cg hDC hF')⟩
               rw [e1] at e
               exact e)
  first | refine g_aload_n O 0 d_Do_removeObject_0 rfl rfl ?_ | refine g_aload_nq O 0 d_Do_removeObject_0 rfl rfl ?_
  refine g_getS O c_Do 1 (by decide) rfl (hR.d hd).2.1 lk_Do_11 d_Do_removeObject_1 (hR.d hd).2.2.1 ?_
  refine g_iload_n O 1 d_Do_removeObject_4 rfl rfl ?_
  refine g_aaldS O 4 rfl rfl (hR.d hd).2.2.2.1 (by rw [(hR.d hd).2.2.2.2.1]; exact ix_in ht (by omega)) d_Do_removeObject_5 (by rw [cl_nI (by omega)]; exact (hR.o hd ht).1) ?_
  refine g_iconst (v := 0) O d_Do_removeObject_6 (by decide) ?_
  refine g_putI O c_Ob 0 (by decide) rfl (hR.o hd ht).2.1 (Or.inr (by first | exact Or.inl rfl | exact Or.inr rfl | assumption)) (Or.inl rfl) lk_Do_24 d_Do_removeObject_7 ?_
  refine g_iconst (v := 0) O d_Do_removeObject_10 (by decide) ?_
  refine g_istore_n O 2 d_Do_removeObject_11 rfl (Nat.le_of_ble_eq_true rfl) ?_
  refine g_iconst (v := 0) O d_Do_removeObject_12 (by decide) ?_
  refine g_istore_n O 3 d_Do_removeObject_13 rfl (Nat.le_of_ble_eq_true rfl) ?_
  exact loop 0 _ (by omega) ⟨rep_T hR hd ht false, cd_Fr.wI (ow_at (k := 4) ⟨hd, ht, rfl⟩)⟩
set_option maxHeartbeats 4000000 in
set_option maxRecDepth 100000 in
theorem ct_Do_replaceSlot {G : cd_Gl} {l : Launch} {w : cd_Wd} {Q : cd_Out → cd_Wd → Prop} {x : Nat} {A : cd_A} {σ : cd_S} (hR : cd_Rep w x A σ) {d i c : Nat} (hd : d < sD σ) (hi : i < 8) (hc : c < sC σ) (h : ∀ w', cd_Rep w' x A (setS σ d i (some c)) → cd_Fr w w' (cd_ow x A σ) → Q (.inl (some (.int (cd_b (sS σ d i).isSome)))) w') : cd_Ct G l y_Do_replaceSlot 0 0 0 [.ref (A 1 d 0 0), .int (nI i), .ref (A 8 c 0 0)] w Q := by
  refine cd_ofW cw_Do_replaceSlot (by simp [Value.category, cat_rf]) (Nat.le_of_ble_eq_true rfl) fun C O => ?_
  change cd_Go G l C _ 0 0 w 0 [some (.ref (A 1 d 0 0)), some (.int (nI i)), some (.ref (A 8 c 0 0)), none] []
  first | refine g_aload_n O 0 d_Do_replaceSlot_0 rfl rfl ?_ | refine g_aload_nq O 0 d_Do_replaceSlot_0 rfl rfl ?_
  refine g_getS O c_Do 2 (by decide) rfl (hR.d hd).2.1 lk_Do_20 d_Do_replaceSlot_1 (hR.d hd).2.2.2.2.2.1 ?_
  refine g_iload_n O 1 d_Do_replaceSlot_4 rfl rfl ?_
  refine g_aaldV O 6 rfl rfl (hR.d hd).2.2.2.2.2.2.1 (by rw [(hR.d hd).2.2.2.2.2.2.2.1]; exact ix_in hi (by omega)) d_Do_replaceSlot_5 (show cd_O w (1000 + 6) (A 3 d 0 0) (nI i).toNatClampNeg = (sS σ d i).map (fun c => A 8 c 0 0) from by rw [nI_clamp (by omega)]; exact hR.s hd hi) ?_
  refine g_ifnonnull O 13 d_Do_replaceSlot_6 (by decide) (fun x6 c6 => ?_) (fun c6 => ?_)
  · have e1 : (sS σ d i).isSome = true := by cases hz : sS σ d i with
      | none => rw [hz] at c6; cases c6
      | some c => rfl
    rw [e1] at h
    refine g_iconst (v := 1) O d_Do_replaceSlot_13 (by decide) ?_
    refine g_istore_n O 3 d_Do_replaceSlot_14 rfl (Nat.le_of_ble_eq_true rfl) ?_
    first | refine g_aload_n O 0 d_Do_replaceSlot_15 rfl rfl ?_ | refine g_aload_nq O 0 d_Do_replaceSlot_15 rfl rfl ?_
    refine g_getS O c_Do 2 (by decide) rfl (hR.d hd).2.1 lk_Do_20 d_Do_replaceSlot_16 (hR.d hd).2.2.2.2.2.1 ?_
    refine g_iload_n O 1 d_Do_replaceSlot_19 rfl rfl ?_
    first | refine g_aload_n O 2 d_Do_replaceSlot_20 rfl rfl ?_ | refine g_aload_nq O 2 d_Do_replaceSlot_20 rfl rfl ?_
    first | refine g_aast (q := q_Ca) O 6 4 rfl rfl rfl (hR.d hd).2.2.2.2.2.2.1 (hR.c hc).2.1 (by rw [(hR.d hd).2.2.2.2.2.2.2.1]; exact ix_in hi (by omega)) d_Do_replaceSlot_21 ?_ | refine g_aastN (D := "CapabilityDomains$Capability") O 6 rfl rfl (hR.d hd).2.2.2.2.2.2.1 (by rw [(hR.d hd).2.2.2.2.2.2.2.1]; exact ix_in hi (by omega)) d_Do_replaceSlot_21 ?_ | refine g_aastq (q := q_Ca) O 6 4 rfl rfl rfl (hR.d hd).2.2.2.2.2.2.1 (hR.c hc).2.1 (by rw [(hR.d hd).2.2.2.2.2.2.2.1]; exact ix_in hi (by omega)) d_Do_replaceSlot_21 ?_
    refine g_iload_n O 3 d_Do_replaceSlot_22 rfl rfl ?_
    refine g_iret O d_Do_replaceSlot_23 (Nat.le_of_ble_eq_true rfl) (Nat.le_of_ble_eq_true rfl) ?_
    refine h _ ?_ ?_
    · have q := rep_S hR hd hi (r := some c) (fun z hz => by cases hz; exact hc)
      rw [nI_clamp (by omega)]
      exact q
    · exact cd_Fr.wO (ow_at (k := 3) ⟨hd, rfl, rfl⟩)
  · have e1 : (sS σ d i).isSome = false := by cases hz : sS σ d i with
      | none => rfl
      | some c => rw [hz] at c6; cases c6
    rw [e1] at h
    refine g_iconst (v := 0) O d_Do_replaceSlot_9 (by decide) ?_
    refine g_goto O 14 d_Do_replaceSlot_10 (by decide) ?_
    refine g_istore_n O 3 d_Do_replaceSlot_14 rfl (Nat.le_of_ble_eq_true rfl) ?_
    first | refine g_aload_n O 0 d_Do_replaceSlot_15 rfl rfl ?_ | refine g_aload_nq O 0 d_Do_replaceSlot_15 rfl rfl ?_
    refine g_getS O c_Do 2 (by decide) rfl (hR.d hd).2.1 lk_Do_20 d_Do_replaceSlot_16 (hR.d hd).2.2.2.2.2.1 ?_
    refine g_iload_n O 1 d_Do_replaceSlot_19 rfl rfl ?_
    first | refine g_aload_n O 2 d_Do_replaceSlot_20 rfl rfl ?_ | refine g_aload_nq O 2 d_Do_replaceSlot_20 rfl rfl ?_
    first | refine g_aast (q := q_Ca) O 6 4 rfl rfl rfl (hR.d hd).2.2.2.2.2.2.1 (hR.c hc).2.1 (by rw [(hR.d hd).2.2.2.2.2.2.2.1]; exact ix_in hi (by omega)) d_Do_replaceSlot_21 ?_ | refine g_aastN (D := "CapabilityDomains$Capability") O 6 rfl rfl (hR.d hd).2.2.2.2.2.2.1 (by rw [(hR.d hd).2.2.2.2.2.2.2.1]; exact ix_in hi (by omega)) d_Do_replaceSlot_21 ?_ | refine g_aastq (q := q_Ca) O 6 4 rfl rfl rfl (hR.d hd).2.2.2.2.2.2.1 (hR.c hc).2.1 (by rw [(hR.d hd).2.2.2.2.2.2.2.1]; exact ix_in hi (by omega)) d_Do_replaceSlot_21 ?_
    refine g_iload_n O 3 d_Do_replaceSlot_22 rfl rfl ?_
    refine g_iret O d_Do_replaceSlot_23 (Nat.le_of_ble_eq_true rfl) (Nat.le_of_ble_eq_true rfl) ?_
    refine h _ ?_ ?_
    · have q := rep_S hR hd hi (r := some c) (fun z hz => by cases hz; exact hc)
      rw [nI_clamp (by omega)]
      exact q
    · exact cd_Fr.wO (ow_at (k := 3) ⟨hd, rfl, rfl⟩)
set_option maxHeartbeats 4000000 in
set_option maxRecDepth 100000 in
theorem ct_Do_finish {G : cd_Gl} {l : Launch} {w : cd_Wd} {Q : cd_Out → cd_Wd → Prop} {x : Nat} {A : cd_A} {σ : cd_S} (hR : cd_Rep w x A σ) {d : Nat} (hd : d < sD σ) (h : ∀ w', cd_Rep w' x A (finD σ d) → cd_Fr w w' (cd_ow x A σ) → Q (.inl none) w') : cd_Ct G l y_Do_finish 0 0 0 [.ref (A 1 d 0 0)] w Q := by
  refine cd_ofW cw_Do_finish (by simp [Value.category, cat_rf]) (Nat.le_of_ble_eq_true rfl) fun C O => ?_
  change cd_Go G l C _ 0 0 w 0 [some (.ref (A 1 d 0 0)), none] []
  have loop2 : ∀ (j : Nat) (v : cd_Wd), j ≤ 8 → (cd_Rep v x A (itr (fun τ i => setS τ d i none) (itr (fun τ o => setT τ d o false) (setE σ d true) 12) j) ∧ cd_Fr w v (cd_ow x A σ)) → cd_Go G l C (cd_MQ G (cx_s C) (cx_b C) 0 0 Q) (0) (0) v 31 [some (.ref (A 1 d 0 0)), some (.int (nI j))] [] := by
    refine lp (8) (P := fun j v => cd_Rep v x A (itr (fun τ i => setS τ d i none) (itr (fun τ o => setT τ d o false) (setE σ d true) 12) j) ∧ cd_Fr w v (cd_ow x A σ)) (g := fun j v => cd_Go G l C (cd_MQ G (cx_s C) (cx_b C) 0 0 Q) (0) (0) v 31 [some (.ref (A 1 d 0 0)), some (.int (nI j))] []) (fun v hP => ?_) (fun j v hj hP ih => ?_)
    · skip
      refine g_iload_n O 1 d_Do_finish_31 rfl rfl ?_
      refine g_bipush (v := 8) O d_Do_finish_32 (by decide) ?_
      refine g_icmp_ge O 50 d_Do_finish_34 (by decide) (fun c34 => ?_) (fun c34 => ?_)
      · refine g_ret O d_Do_finish_50 (Nat.le_of_ble_eq_true rfl) (Nat.le_of_ble_eq_true rfl) ?_
        exact h v hP.1 hP.2
      · exact absurd (show (8 : Int32) ≤ nI 8 from by decide) c34
    · skip
      obtain ⟨hR, hF⟩ := hP
      have hd1 : d < sD (itr (fun τ i => setS τ d i none) (itr (fun τ o => setT τ d o false) (setE σ d true) 12) j) := by rw [(setS_DC j).1, (setT_DC 12).1]; exact hd
      refine g_iload_n O 1 d_Do_finish_31 rfl rfl ?_
      refine g_bipush (v := 8) O d_Do_finish_32 (by decide) ?_
      refine g_icmp_ge O 50 d_Do_finish_34 (by decide) (fun c34 => ?_) (fun c34 => ?_)
      · exact absurd c34 (nI_ge (b := 8) hj (by omega))
      · first | refine g_aload_n O 0 d_Do_finish_37 rfl rfl ?_ | refine g_aload_nq O 0 d_Do_finish_37 rfl rfl ?_
        refine g_getS O c_Do 2 (by decide) rfl (hR.d hd1).2.1 lk_Do_20 d_Do_finish_38 (hR.d hd1).2.2.2.2.2.1 ?_
        refine g_iload_n O 1 d_Do_finish_41 rfl rfl ?_
        refine g_null O d_Do_finish_42 ?_
        first | refine g_aast (q := q_Ca) O 6 4 rfl rfl rfl (hR.d hd1).2.2.2.2.2.2.1 (by assumption) (by rw [(hR.d hd1).2.2.2.2.2.2.2.1]; exact ix_in hj (by omega)) d_Do_finish_43 ?_ | refine g_aastN (D := "CapabilityDomains$Capability") O 6 rfl rfl (hR.d hd1).2.2.2.2.2.2.1 (by rw [(hR.d hd1).2.2.2.2.2.2.2.1]; exact ix_in hj (by omega)) d_Do_finish_43 ?_ | refine g_aastq (q := q_Ca) O 6 4 rfl rfl rfl (hR.d hd1).2.2.2.2.2.2.1 (by assumption) (by rw [(hR.d hd1).2.2.2.2.2.2.2.1]; exact ix_in hj (by omega)) d_Do_finish_43 ?_
        first | refine g_iinc O d_Do_finish_44 rfl (ic1 _) ?_ | refine g_iinc O d_Do_finish_44 rfl rfl ?_
        refine g_goto O 31 d_Do_finish_47 (by decide) ?_
        refine ih _ ⟨?_, hF.tr (cd_Fr.wO (ow_at (k := 3) ⟨hd, rfl, rfl⟩))⟩
        rw [nI_clamp (by omega)]
        exact rep_S hR hd1 hj (r := none) (fun z hz => by cases hz)
  have loop : ∀ (j : Nat) (v : cd_Wd), j ≤ 12 → (cd_Rep v x A (itr (fun τ o => setT τ d o false) (setE σ d true) j) ∧ cd_Fr w v (cd_ow x A σ)) → cd_Go G l C (cd_MQ G (cx_s C) (cx_b C) 0 0 Q) (0) (0) v 7 [some (.ref (A 1 d 0 0)), some (.int (nI j))] [] := by
    refine lp (12) (P := fun j v => cd_Rep v x A (itr (fun τ o => setT τ d o false) (setE σ d true) j) ∧ cd_Fr w v (cd_ow x A σ)) (g := fun j v => cd_Go G l C (cd_MQ G (cx_s C) (cx_b C) 0 0 Q) (0) (0) v 7 [some (.ref (A 1 d 0 0)), some (.int (nI j))] []) (fun v hP => ?_) (fun j v hj hP ih => ?_)
    · skip
      refine g_iload_n O 1 d_Do_finish_7 rfl rfl ?_
      refine g_bipush (v := 12) O d_Do_finish_8 (by decide) ?_
      refine g_icmp_ge O 29 d_Do_finish_10 (by decide) (fun c10 => ?_) (fun c10 => ?_)
      · refine g_iconst (v := 0) O d_Do_finish_29 (by decide) ?_
        refine g_istore_n O 1 d_Do_finish_30 rfl (Nat.le_of_ble_eq_true rfl) ?_
        exact loop2 0 _ (by omega) hP
      · exact absurd (show (12 : Int32) ≤ nI 12 from by decide) c10
    · skip
      obtain ⟨hR, hF⟩ := hP
      have hd1 : d < sD (itr (fun τ o => setT τ d o false) (setE σ d true) j) := by rw [(setT_DC j).1]; exact hd
      refine g_iload_n O 1 d_Do_finish_7 rfl rfl ?_
      refine g_bipush (v := 12) O d_Do_finish_8 (by decide) ?_
      refine g_icmp_ge O 29 d_Do_finish_10 (by decide) (fun c10 => ?_) (fun c10 => ?_)
      · exact absurd c10 (nI_ge (b := 12) hj (by omega))
      · first | refine g_aload_n O 0 d_Do_finish_13 rfl rfl ?_ | refine g_aload_nq O 0 d_Do_finish_13 rfl rfl ?_
        refine g_getS O c_Do 1 (by decide) rfl (hR.d hd1).2.1 lk_Do_11 d_Do_finish_14 (hR.d hd1).2.2.1 ?_
        refine g_iload_n O 1 d_Do_finish_17 rfl rfl ?_
        refine g_aaldS O 4 rfl rfl (hR.d hd1).2.2.2.1 (by rw [(hR.d hd1).2.2.2.2.1]; exact ix_in hj (by omega)) d_Do_finish_18 (by rw [cl_nI (by omega)]; exact (hR.o hd1 hj).1) ?_
        refine g_iconst (v := 0) O d_Do_finish_19 (by decide) ?_
        refine g_putI O c_Ob 0 (by decide) rfl (hR.o hd1 hj).2.1 (Or.inr (by first | exact Or.inl rfl | exact Or.inr rfl | assumption)) (Or.inl rfl) lk_Do_24 d_Do_finish_20 ?_
        first | refine g_iinc O d_Do_finish_23 rfl (ic1 _) ?_ | refine g_iinc O d_Do_finish_23 rfl rfl ?_
        refine g_goto O 7 d_Do_finish_26 (by decide) ?_
        exact ih _ ⟨rep_T hR hd1 hj false, hF.tr (cd_Fr.wI (ow_at (k := 4) ⟨hd, hj, rfl⟩))⟩
  first | refine g_aload_n O 0 d_Do_finish_0 rfl rfl ?_ | refine g_aload_nq O 0 d_Do_finish_0 rfl rfl ?_
  refine g_iconst (v := 1) O d_Do_finish_1 (by decide) ?_
  refine g_putI O c_Do 0 (by decide) rfl (hR.d hd).2.1 (Or.inr (by first | exact Or.inl rfl | exact Or.inr rfl | assumption)) (Or.inl rfl) lk_Do_35 d_Do_finish_2 ?_
  refine g_iconst (v := 0) O d_Do_finish_5 (by decide) ?_
  refine g_istore_n O 1 d_Do_finish_6 rfl (Nat.le_of_ble_eq_true rfl) ?_
  exact loop 0 _ (by omega) ⟨rep_E hR hd true, cd_Fr.wI (ow_at (k := 1) ⟨hd, rfl, rfl⟩)⟩
set_option maxHeartbeats 4000000 in
set_option maxRecDepth 100000 in
theorem ct_Cd_livingDomains {G : cd_Gl} {l : Launch} {w : cd_Wd} {Q : cd_Out → cd_Wd → Prop} {x : Nat} {A : cd_A} {σ : cd_S} (hR : cd_Rep w x A σ) (h : Q (.inl (some (.int (nI (cnt (fun d => !sE σ d) (sD σ)))))) w) : cd_Ct G l y_Cd_livingDomains 0 0 0 [.ref x] w Q := by
  refine cd_ofW cw_Cd_livingDomains (by simp [Value.category, cat_rf]) (Nat.le_of_ble_eq_true rfl) fun C O => ?_
  change cd_Go G l C _ 0 0 w 0 [some (.ref x), none, none] []
  have hD6 := hR.top.2.2.2.2.2.2.2.2.2.2.2.2.2.2.2.2.2.2.2.1
  have loop : ∀ (j : Nat) (v : cd_Wd), j ≤ sD σ → (v = w) → cd_Go G l C (cd_MQ G (cx_s C) (cx_b C) 0 0 Q) (0) (0) v 4 [some (.ref x), some (.int (nI (cnt (fun d => !sE σ d) j))), some (.int (nI j))] [] := by
    refine lp (sD σ) (P := fun j v => v = w) (g := fun j v => cd_Go G l C (cd_MQ G (cx_s C) (cx_b C) 0 0 Q) (0) (0) v 4 [some (.ref x), some (.int (nI (cnt (fun d => !sE σ d) j))), some (.int (nI j))] []) (fun v hP => ?_) (fun j v hj hP ih => ?_)
    · skip
      subst hP
      refine g_iload_n O 2 d_Cd_livingDomains_4 rfl rfl ?_
      first | refine g_aload_n O 0 d_Cd_livingDomains_5 rfl rfl ?_ | refine g_aload_nq O 0 d_Cd_livingDomains_5 rfl rfl ?_
      refine g_getV O c_Cd 1 (by decide) rfl hR.top.1 lk_Cd_28 d_Cd_livingDomains_6 hR.top.2.2.2.2.2.2.2.2.2.2.2.2.2.2.2.2.2.2.1 ?_
      refine g_icmp_ge O 33 d_Cd_livingDomains_9 (by decide) (fun c9 => ?_) (fun c9 => ?_)
      · refine g_iload_n O 1 d_Cd_livingDomains_33 rfl rfl ?_
        refine g_iret O d_Cd_livingDomains_34 (Nat.le_of_ble_eq_true rfl) (Nat.le_of_ble_eq_true rfl) ?_
        exact h
      · exact absurd (Int32.le_refl _) c9
    · skip
      subst hP
      refine g_iload_n O 2 d_Cd_livingDomains_4 rfl rfl ?_
      first | refine g_aload_n O 0 d_Cd_livingDomains_5 rfl rfl ?_ | refine g_aload_nq O 0 d_Cd_livingDomains_5 rfl rfl ?_
      refine g_getV O c_Cd 1 (by decide) rfl hR.top.1 lk_Cd_28 d_Cd_livingDomains_6 hR.top.2.2.2.2.2.2.2.2.2.2.2.2.2.2.2.2.2.2.1 ?_
      refine g_icmp_ge O 33 d_Cd_livingDomains_9 (by decide) (fun c9 => ?_) (fun c9 => ?_)
      · exact absurd c9 (nI_ge (b := sD σ) hj (by omega))
      · first | refine g_aload_n O 0 d_Cd_livingDomains_12 rfl rfl ?_ | refine g_aload_nq O 0 d_Cd_livingDomains_12 rfl rfl ?_
        refine g_getS O c_Cd 0 (by decide) rfl hR.top.1 lk_Cd_11 d_Cd_livingDomains_13 hR.top.2.1 ?_
        refine g_iload_n O 2 d_Cd_livingDomains_16 rfl rfl ?_
        refine g_aaldS O 3 rfl rfl hR.top.2.2.1 (by rw [hR.top.2.2.2.1]; exact ix_in (Nat.lt_of_lt_of_le hj hR.top.2.2.2.2.2.2.2.2.2.2.2.2.2.2.2.2.2.2.2.1) (by omega)) d_Cd_livingDomains_17 (by rw [cl_nI (by omega)]; exact (hR.d hj).1) ?_
        refine g_getV O c_Do 0 (by decide) rfl (hR.d hj).2.1 lk_Cd_224 d_Cd_livingDomains_18 (hR.d hj).2.2.2.2.2.2.2.2 ?_
        refine g_if_ne O 27 d_Cd_livingDomains_21 (by decide) (fun c21 => ?_) (fun c21 => ?_)
        · have e1 := cnt_f (p := fun d => !sE σ d) (j := j) (by simp [cd_b_ne.mp c21])
          first | refine g_iinc O d_Cd_livingDomains_27 rfl (ic1 _) ?_ | refine g_iinc O d_Cd_livingDomains_27 rfl rfl ?_
          refine g_goto O 4 d_Cd_livingDomains_30 (by decide) ?_
          have e := ih v rfl
          rw [e1] at e
          exact e
        · have e1 := cnt_t (p := fun d => !sE σ d) (j := j) (by simp [cd_b_eq.mp c21])
          first | refine g_iinc O d_Cd_livingDomains_24 rfl (ic1 _) ?_ | refine g_iinc O d_Cd_livingDomains_24 rfl rfl ?_
          first | refine g_iinc O d_Cd_livingDomains_27 rfl (ic1 _) ?_ | refine g_iinc O d_Cd_livingDomains_27 rfl rfl ?_
          refine g_goto O 4 d_Cd_livingDomains_30 (by decide) ?_
          have e := ih v rfl
          rw [e1] at e
          exact e
  refine g_iconst (v := 0) O d_Cd_livingDomains_0 (by decide) ?_
  refine g_istore_n O 1 d_Cd_livingDomains_1 rfl (Nat.le_of_ble_eq_true rfl) ?_
  refine g_iconst (v := 0) O d_Cd_livingDomains_2 (by decide) ?_
  refine g_istore_n O 2 d_Cd_livingDomains_3 rfl (Nat.le_of_ble_eq_true rfl) ?_
  exact loop 0 _ (by omega) rfl
set_option maxHeartbeats 4000000 in
set_option maxRecDepth 100000 in
theorem ct_Cd_livingCapabilities {G : cd_Gl} {l : Launch} {w : cd_Wd} {Q : cd_Out → cd_Wd → Prop} {x : Nat} {A : cd_A} {σ : cd_S} (hR : cd_Rep w x A σ) (h : Q (.inl (some (.int (nI (cnt (fun c => !kX σ c) (sC σ)))))) w) : cd_Ct G l y_Cd_livingCapabilities 0 0 0 [.ref x] w Q := by
  refine cd_ofW cw_Cd_livingCapabilities (by simp [Value.category, cat_rf]) (Nat.le_of_ble_eq_true rfl) fun C O => ?_
  change cd_Go G l C _ 0 0 w 0 [some (.ref x), none, none] []
  have hC40 := hR.top.2.2.2.2.2.2.2.2.2.2.2.2.2.2.2.2.2.2.2.2.2
  have loop : ∀ (j : Nat) (v : cd_Wd), j ≤ sC σ → (v = w) → cd_Go G l C (cd_MQ G (cx_s C) (cx_b C) 0 0 Q) (0) (0) v 4 [some (.ref x), some (.int (nI (cnt (fun c => !kX σ c) j))), some (.int (nI j))] [] := by
    refine lp (sC σ) (P := fun j v => v = w) (g := fun j v => cd_Go G l C (cd_MQ G (cx_s C) (cx_b C) 0 0 Q) (0) (0) v 4 [some (.ref x), some (.int (nI (cnt (fun c => !kX σ c) j))), some (.int (nI j))] []) (fun v hP => ?_) (fun j v hj hP ih => ?_)
    · skip
      subst hP
      refine g_iload_n O 2 d_Cd_livingCapabilities_4 rfl rfl ?_
      first | refine g_aload_n O 0 d_Cd_livingCapabilities_5 rfl rfl ?_ | refine g_aload_nq O 0 d_Cd_livingCapabilities_5 rfl rfl ?_
      refine g_getV O c_Cd 3 (by decide) rfl hR.top.1 lk_Cd_233 d_Cd_livingCapabilities_6 hR.top.2.2.2.2.2.2.2.2.2.2.2.2.2.2.2.2.2.2.2.2.1 ?_
      refine g_icmp_ge O 33 d_Cd_livingCapabilities_9 (by decide) (fun c9 => ?_) (fun c9 => ?_)
      · refine g_iload_n O 1 d_Cd_livingCapabilities_33 rfl rfl ?_
        refine g_iret O d_Cd_livingCapabilities_34 (Nat.le_of_ble_eq_true rfl) (Nat.le_of_ble_eq_true rfl) ?_
        exact h
      · exact absurd (Int32.le_refl _) c9
    · skip
      subst hP
      refine g_iload_n O 2 d_Cd_livingCapabilities_4 rfl rfl ?_
      first | refine g_aload_n O 0 d_Cd_livingCapabilities_5 rfl rfl ?_ | refine g_aload_nq O 0 d_Cd_livingCapabilities_5 rfl rfl ?_
      refine g_getV O c_Cd 3 (by decide) rfl hR.top.1 lk_Cd_233 d_Cd_livingCapabilities_6 hR.top.2.2.2.2.2.2.2.2.2.2.2.2.2.2.2.2.2.2.2.2.1 ?_
      refine g_icmp_ge O 33 d_Cd_livingCapabilities_9 (by decide) (fun c9 => ?_) (fun c9 => ?_)
      · exact absurd c9 (nI_ge (b := sC σ) hj (by omega))
      · first | refine g_aload_n O 0 d_Cd_livingCapabilities_12 rfl rfl ?_ | refine g_aload_nq O 0 d_Cd_livingCapabilities_12 rfl rfl ?_
        refine g_getS O c_Cd 2 (by decide) rfl hR.top.1 lk_Cd_17 d_Cd_livingCapabilities_13 hR.top.2.2.2.2.1 ?_
        refine g_iload_n O 2 d_Cd_livingCapabilities_16 rfl rfl ?_
        refine g_aaldS O 6 rfl rfl hR.top.2.2.2.2.2.1 (by rw [hR.top.2.2.2.2.2.2.1]; exact ix_in (Nat.lt_of_lt_of_le hj hR.top.2.2.2.2.2.2.2.2.2.2.2.2.2.2.2.2.2.2.2.2.2) (by omega)) d_Cd_livingCapabilities_17 (by rw [cl_nI (by omega)]; exact (hR.c hj).1) ?_
        refine g_getV O c_Ca 6 (by decide) rfl (hR.c hj).2.1 lk_Cd_116 d_Cd_livingCapabilities_18 (hR.c hj).2.2.2.2.2.2.2.2 ?_
        refine g_if_ne O 27 d_Cd_livingCapabilities_21 (by decide) (fun c21 => ?_) (fun c21 => ?_)
        · have e1 := cnt_f (p := fun c => !kX σ c) (j := j) (by simp [cd_b_ne.mp c21])
          first | refine g_iinc O d_Cd_livingCapabilities_27 rfl (ic1 _) ?_ | refine g_iinc O d_Cd_livingCapabilities_27 rfl rfl ?_
          refine g_goto O 4 d_Cd_livingCapabilities_30 (by decide) ?_
          have e := ih v rfl
          rw [e1] at e
          exact e
        · have e1 := cnt_t (p := fun c => !kX σ c) (j := j) (by simp [cd_b_eq.mp c21])
          first | refine g_iinc O d_Cd_livingCapabilities_24 rfl (ic1 _) ?_ | refine g_iinc O d_Cd_livingCapabilities_24 rfl rfl ?_
          first | refine g_iinc O d_Cd_livingCapabilities_27 rfl (ic1 _) ?_ | refine g_iinc O d_Cd_livingCapabilities_27 rfl rfl ?_
          refine g_goto O 4 d_Cd_livingCapabilities_30 (by decide) ?_
          have e := ih v rfl
          rw [e1] at e
          exact e
  refine g_iconst (v := 0) O d_Cd_livingCapabilities_0 (by decide) ?_
  refine g_istore_n O 1 d_Cd_livingCapabilities_1 rfl (Nat.le_of_ble_eq_true rfl) ?_
  refine g_iconst (v := 0) O d_Cd_livingCapabilities_2 (by decide) ?_
  refine g_istore_n O 2 d_Cd_livingCapabilities_3 rfl (Nat.le_of_ble_eq_true rfl) ?_
  exact loop 0 _ (by omega) rfl
set_option maxHeartbeats 4000000 in
set_option maxRecDepth 100000 in
theorem ct_Cd_objectsOf {G : cd_Gl} {l : Launch} {w : cd_Wd} {Q : cd_Out → cd_Wd → Prop} {x : Nat} {A : cd_A} {σ : cd_S} (hR : cd_Rep w x A σ) {d : Int32} (h : Q (.inl (some (.int (if isD σ d = true then nI (cnt (sT σ d.toNatClampNeg) 12) else 0)))) w) : cd_Ct G l y_Cd_objectsOf 1 0 0 [.ref x, .int d] w Q := by
  refine cd_ofW cw_Cd_objectsOf (by simp [Value.category, cat_rf]) (Nat.le_of_ble_eq_true rfl) fun C O => ?_
  change cd_Go G l C _ 0 0 w 0 [some (.ref x), some (.int d)] []
  first | refine g_aload_n O 0 d_Cd_objectsOf_0 rfl rfl ?_ | refine g_aload_nq O 0 d_Cd_objectsOf_0 rfl rfl ?_
  refine g_iload_n O 1 d_Cd_objectsOf_1 rfl rfl ?_
  refine g_callv (N := 0) (mc := 0) (ms := 0) (av := [_]) O (Or.inl ⟨_, _, cw_Cd_isDomain⟩) pl_Cd (ci := 0) (q := q_Cd) rfl hR.top.1 ml_Cd_221 im_Cd_isDomain se_Cd_isDomain rfl d_Cd_objectsOf_2 rfl (Nat.le_of_ble_eq_true rfl) (Nat.le_of_ble_eq_true rfl) (Nat.le_of_ble_eq_true rfl) (Nat.le_of_ble_eq_true rfl) ?_
  refine ct_Cd_isDomain hR ?_
  change cd_Go _ _ _ _ _ _ _ _ _ _
  refine g_if_eq O 20 d_Cd_objectsOf_5 (by decide) (fun c5 => ?_) (fun c5 => ?_)
  · rw [if_neg (by rw [cd_b_eq.mp c5]; decide)] at h
    refine g_iconst (v := 0) O d_Cd_objectsOf_20 (by decide) ?_
    refine g_iret O d_Cd_objectsOf_21 (Nat.le_of_ble_eq_true rfl) (Nat.le_of_ble_eq_true rfl) ?_
    exact h
  · rw [if_pos (cd_b_ne.mp c5)] at h
    obtain ⟨j, hj, rfl⟩ := isD_of hR.top.2.2.2.2.2.2.2.2.2.2.2.2.2.2.2.2.2.2.2.1 (cd_b_ne.mp c5)
    have hcl : (nI j).toNatClampNeg = j := nI_clamp (by have := hR.top.2.2.2.2.2.2.2.2.2.2.2.2.2.2.2.2.2.2.2.1; omega)
    rw [hcl] at h
    first | refine g_aload_n O 0 d_Cd_objectsOf_8 rfl rfl ?_ | refine g_aload_nq O 0 d_Cd_objectsOf_8 rfl rfl ?_
    refine g_getS O c_Cd 0 (by decide) rfl hR.top.1 lk_Cd_11 d_Cd_objectsOf_9 hR.top.2.1 ?_
    refine g_iload_n O 1 d_Cd_objectsOf_12 rfl rfl ?_
    refine g_aaldS O 3 rfl rfl hR.top.2.2.1 (by rw [hR.top.2.2.2.1]; exact ix_in (Nat.lt_of_lt_of_le hj hR.top.2.2.2.2.2.2.2.2.2.2.2.2.2.2.2.2.2.2.2.1) (by omega)) d_Cd_objectsOf_13 (by rw [hcl]; exact (hR.d hj).1) ?_
    refine g_callv (N := 0) (mc := 0) (ms := 0) (av := []) O (Or.inl ⟨_, _, cw_Do_objectCount⟩) pl_Do (ci := 1) (q := q_Do) rfl (hR.d hj).2.1 ml_Cd_44 im_Do_objectCount se_Do_objectCount rfl d_Cd_objectsOf_14 rfl (Nat.le_of_ble_eq_true rfl) (Nat.le_of_ble_eq_true rfl) (Nat.le_of_ble_eq_true rfl) (Nat.le_of_ble_eq_true rfl) ?_
    refine ct_Do_objectCount hR hj ?_
    change cd_Go _ _ _ _ _ _ _ _ _ _
    refine g_goto O 21 d_Cd_objectsOf_17 (by decide) ?_
    refine g_iret O d_Cd_objectsOf_21 (Nat.le_of_ble_eq_true rfl) (Nat.le_of_ble_eq_true rfl) ?_
    exact h
set_option maxHeartbeats 4000000 in
set_option maxRecDepth 100000 in
theorem ct_Cd_spreadDeath {G : cd_Gl} {l : Launch} {w : cd_Wd} {Q : cd_Out → cd_Wd → Prop} {x : Nat} {A : cd_A} {σ : cd_S} (hR : cd_Rep w x A σ) (h : ∀ w', cd_Rep w' x A (sprd σ).1 → cd_Fr w w' (cd_ow x A σ) → Q (.inl (some (.int (nI (sprd σ).2)))) w') : cd_Ct G l y_Cd_spreadDeath 2 0 0 [.ref x] w Q := by
  refine cd_ofW cw_Cd_spreadDeath (by simp [Value.category, cat_rf]) (Nat.le_of_ble_eq_true rfl) fun C O => ?_
  change cd_Go G l C _ 0 0 w 0 [some (.ref x), none, none, none] []
  have hC40 := hR.top.2.2.2.2.2.2.2.2.2.2.2.2.2.2.2.2.2.2.2.2.2
  have loop : ∀ (j : Nat) (v : cd_Wd), j ≤ sC σ → (cd_Rep v x A (itr sp1 (σ, 0) j).1 ∧ cd_Fr w v (cd_ow x A σ)) → cd_Go G l C (cd_MQ G (cx_s C) (cx_b C) 0 0 Q) (0) (0) v 4 [some (.ref x), some (.int (nI (itr sp1 (σ, 0) j).2)), some (.int (nI j)), none] [] := by
    refine lp (sC σ) (P := fun j v => cd_Rep v x A (itr sp1 (σ, 0) j).1 ∧ cd_Fr w v (cd_ow x A σ)) (g := fun j v => cd_Go G l C (cd_MQ G (cx_s C) (cx_b C) 0 0 Q) (0) (0) v 4 [some (.ref x), some (.int (nI (itr sp1 (σ, 0) j).2)), some (.int (nI j)), none] []) (fun v hP => ?_) (fun j v hj hP ih => ?_)
    · skip
      refine g_iload_n O 2 d_Cd_spreadDeath_4 rfl rfl ?_
      first | refine g_aload_n O 0 d_Cd_spreadDeath_5 rfl rfl ?_ | refine g_aload_nq O 0 d_Cd_spreadDeath_5 rfl rfl ?_
      refine g_getV O c_Cd 3 (by decide) rfl hP.1.top.1 lk_Cd_233 d_Cd_spreadDeath_6 (show cd_I v 3 x 0 = nI (sC σ) from by rw [← (sprd_DC σ (sC σ)).2]; exact hP.1.top.2.2.2.2.2.2.2.2.2.2.2.2.2.2.2.2.2.2.2.2.1) ?_
      refine g_icmp_ge O 47 d_Cd_spreadDeath_9 (by decide) (fun c9 => ?_) (fun c9 => ?_)
      · refine g_iload_n O 1 d_Cd_spreadDeath_47 rfl rfl ?_
        refine g_iret O d_Cd_spreadDeath_48 (Nat.le_of_ble_eq_true rfl) (Nat.le_of_ble_eq_true rfl) ?_
        exact h v hP.1 hP.2
      · exact absurd (Int32.le_refl _) c9
    · skip
      obtain ⟨hR, hF⟩ := hP
      have hDC := sprd_DC σ j
      have hj1 : j < sC (itr sp1 (σ, 0) j).1 := by rw [hDC.2]; exact hj
      refine g_iload_n O 2 d_Cd_spreadDeath_4 rfl rfl ?_
      first | refine g_aload_n O 0 d_Cd_spreadDeath_5 rfl rfl ?_ | refine g_aload_nq O 0 d_Cd_spreadDeath_5 rfl rfl ?_
      refine g_getV O c_Cd 3 (by decide) rfl hR.top.1 lk_Cd_233 d_Cd_spreadDeath_6 (show cd_I v 3 x 0 = nI (sC σ) from by rw [← hDC.2]; exact hR.top.2.2.2.2.2.2.2.2.2.2.2.2.2.2.2.2.2.2.2.2.1) ?_
      refine g_icmp_ge O 47 d_Cd_spreadDeath_9 (by decide) (fun c9 => ?_) (fun c9 => ?_)
      · exact absurd c9 (nI_ge (b := sC σ) hj (by omega))
      · first | refine g_aload_n O 0 d_Cd_spreadDeath_12 rfl rfl ?_ | refine g_aload_nq O 0 d_Cd_spreadDeath_12 rfl rfl ?_
        refine g_getS O c_Cd 2 (by decide) rfl hR.top.1 lk_Cd_17 d_Cd_spreadDeath_13 hR.top.2.2.2.2.1 ?_
        refine g_iload_n O 2 d_Cd_spreadDeath_16 rfl rfl ?_
        refine g_aaldS O 6 rfl rfl hR.top.2.2.2.2.2.1 (by rw [hR.top.2.2.2.2.2.2.1]; exact ix_in (show j < 40 by omega) (by omega)) d_Cd_spreadDeath_17 (by rw [cl_nI (by omega)]; exact (hR.c hj1).1) ?_
        first | refine g_astore_n O 3 d_Cd_spreadDeath_18 rfl (Nat.le_of_ble_eq_true rfl) ?_ | refine g_astore_nq O 3 d_Cd_spreadDeath_18 rfl (Nat.le_of_ble_eq_true rfl) ?_
        first | refine g_aload_n O 3 d_Cd_spreadDeath_19 rfl rfl ?_ | refine g_aload_nq O 3 d_Cd_spreadDeath_19 rfl rfl ?_
        refine g_getV O c_Ca 6 (by decide) rfl (hR.c hj1).2.1 lk_Cd_116 d_Cd_spreadDeath_20 (hR.c hj1).2.2.2.2.2.2.2.2 ?_
        refine g_if_ne O 41 d_Cd_spreadDeath_23 (by decide) (fun c23 => ?_) (fun c23 => ?_)
        · have e1 : itr sp1 (σ, 0) (j + 1) = (itr sp1 (σ, 0) j) := by rw [itr_s]; exact if_neg (fun z => by rw [cd_b_ne.mp c23] at z; exact absurd z.1 (by decide))
          refine g_fg 3 ?_
          first | refine g_iinc O d_Cd_spreadDeath_41 rfl (ic1 _) ?_ | refine g_iinc O d_Cd_spreadDeath_41 rfl rfl ?_
          refine g_goto O 4 d_Cd_spreadDeath_44 (by decide) ?_
          first
            | (have e := ih _ ⟨by rw [e1]; exact hR, hF⟩
               rw [e1] at e
               exact e)
            | (have e := ih _ ⟨by rw [e1]; exact rep_X hR hj1 true, hF.tr (cd_Fr.wI (ow_at (k := 8) ⟨hj, rfl, rfl⟩))⟩
               rw [e1] at e
               exact e)
        · first | refine g_aload_n O 3 d_Cd_spreadDeath_26 rfl rfl ?_ | refine g_aload_nq O 3 d_Cd_spreadDeath_26 rfl rfl ?_
          refine g_callv (N := 1) (mc := 0) (ms := 0) (av := []) O (Or.inl ⟨_, _, cw_Ca_mustDie⟩) pl_Ca (ci := 4) (q := q_Ca) rfl (hR.c hj1).2.1 ml_Cd_266 im_Ca_mustDie se_Ca_mustDie rfl d_Cd_spreadDeath_27 rfl (Nat.le_of_ble_eq_true rfl) (Nat.le_of_ble_eq_true rfl) (Nat.le_of_ble_eq_true rfl) (Nat.le_of_ble_eq_true rfl) ?_
          refine ct_Ca_mustDie hR hj1 ?_
          change cd_Go _ _ _ _ _ _ _ _ _ _
          refine g_if_eq O 41 d_Cd_spreadDeath_30 (by decide) (fun c30 => ?_) (fun c30 => ?_)
          · have e1 : itr sp1 (σ, 0) (j + 1) = (itr sp1 (σ, 0) j) := by rw [itr_s]; exact if_neg (fun z => by rw [cd_b_eq.mp c30] at z; exact absurd z.2 (by decide))
            refine g_fg 3 ?_
            first | refine g_iinc O d_Cd_spreadDeath_41 rfl (ic1 _) ?_ | refine g_iinc O d_Cd_spreadDeath_41 rfl rfl ?_
            refine g_goto O 4 d_Cd_spreadDeath_44 (by decide) ?_
            first
              | (have e := ih _ ⟨by rw [e1]; exact hR, hF⟩
                 rw [e1] at e
                 exact e)
              | (have e := ih _ ⟨by rw [e1]; exact rep_X hR hj1 true, hF.tr (cd_Fr.wI (ow_at (k := 8) ⟨hj, rfl, rfl⟩))⟩
                 rw [e1] at e
                 exact e)
          · have e1 : itr sp1 (σ, 0) (j + 1) = (setX (itr sp1 (σ, 0) j).1 j true, (itr sp1 (σ, 0) j).2 + 1) := by rw [itr_s]; exact if_pos ⟨cd_b_eq.mp c23, cd_b_ne.mp c30⟩
            first | refine g_aload_n O 3 d_Cd_spreadDeath_33 rfl rfl ?_ | refine g_aload_nq O 3 d_Cd_spreadDeath_33 rfl rfl ?_
            refine g_iconst (v := 1) O d_Cd_spreadDeath_34 (by decide) ?_
            refine g_putI O c_Ca 6 (by decide) rfl (hR.c hj1).2.1 (Or.inr (by first | exact Or.inl rfl | exact Or.inr rfl | assumption)) (Or.inl rfl) lk_Cd_116 d_Cd_spreadDeath_35 ?_
            first | refine g_iinc O d_Cd_spreadDeath_38 rfl (ic1 _) ?_ | refine g_iinc O d_Cd_spreadDeath_38 rfl rfl ?_
            refine g_fg 3 ?_
            first | refine g_iinc O d_Cd_spreadDeath_41 rfl (ic1 _) ?_ | refine g_iinc O d_Cd_spreadDeath_41 rfl rfl ?_
            refine g_goto O 4 d_Cd_spreadDeath_44 (by decide) ?_
            first
              | (have e := ih _ ⟨by rw [e1]; exact hR, hF⟩
                 rw [e1] at e
                 exact e)
              | (have e := ih _ ⟨by rw [e1]; exact rep_X hR hj1 true, hF.tr (cd_Fr.wI (ow_at (k := 8) ⟨hj, rfl, rfl⟩))⟩
                 rw [e1] at e
                 exact e)
  refine g_iconst (v := 0) O d_Cd_spreadDeath_0 (by decide) ?_
  refine g_istore_n O 1 d_Cd_spreadDeath_1 rfl (Nat.le_of_ble_eq_true rfl) ?_
  refine g_iconst (v := 0) O d_Cd_spreadDeath_2 (by decide) ?_
  refine g_istore_n O 2 d_Cd_spreadDeath_3 rfl (Nat.le_of_ble_eq_true rfl) ?_
  exact loop 0 _ (by omega) ⟨hR, cd_Fr.rf⟩
end
section
theorem cd_Fr.drop {w w' : cd_Wd} {P P' : Nat → Prop} (h : cd_Fr w w' P) (hp : ∀ y, P y → P' y ∨ cd_kd w y = 0) : cd_Fr w w' P' := fun b hb => ⟨(h b hb).1, (h b hb).2.1, fun n => (h b hb).2.2 fun z => (hp b z).elim n hb⟩
theorem cd_Fr.new {w w' : cd_Wd} {P : Nat → Prop} (h : cd_Fr w w' P) {y : Nat} (hy : cd_kd w' y = 0) : cd_kd w y = 0 := Decidable.byContradiction fun z => z ((h y z).1 ▸ hy)
theorem cd_Fr.I {w w' : cd_Wd} {P : Nat → Prop} (h : cd_Fr w w' P) {b : Nat} (hb : cd_kd w b ≠ 0) (hp : ¬ P b) (t j : Nat) : cd_I w' t b j = cd_I w t b j := ((h b hb).2.2 hp).1 t j
theorem cd_Fr.O {w w' : cd_Wd} {P : Nat → Prop} (h : cd_Fr w w' P) {b : Nat} (hb : cd_kd w b ≠ 0) (hp : ¬ P b) (t j : Nat) : cd_O w' t b j = cd_O w t b j := ((h b hb).2.2 hp).2.1 t j
theorem cd_Fr.k {w w' : cd_Wd} {P : Nat → Prop} (h : cd_Fr w w' P) {b : Nat} (hb : cd_kd w b ≠ 0) : cd_kd w' b = cd_kd w b := (h b hb).1
theorem cd_Fr.l {w w' : cd_Wd} {P : Nat → Prop} (h : cd_Fr w w' P) {b : Nat} (hb : cd_kd w b ≠ 0) : cd_ln w' b = cd_ln w b := (h b hb).2.1
/-- a new object of a domain: b its fields' array, c its fields -/
def obF (w w' : cd_Wd) (b : Nat) (c : Nat → Nat) (L : Nat → Nat) (f : Nat) : Prop := cd_O w' 1005 b f = some (c f) ∧ cd_kd w' (c f) = 8 ∧ cd_I w' 96 (c f) 0 = 0 ∧ cd_I w' 97 (c f) 0 = -1 ∧ cd_O w' 98 (c f) 0 = none ∧ cd_kd w (c f) = 0 ∧ L (c f) = f + 1
def obP (w w' : cd_Wd) (a b : Nat) (c : Nat → Nat) (L : Nat → Nat) (n : Nat) : Prop := cd_Fr w w' (fun y => y = a ∨ cd_kd w y = 0) ∧ cd_kd w b = 0 ∧ cd_I w' 64 a 0 = cd_I w 64 a 0 ∧ cd_O w' 65 a 0 = some b ∧ cd_kd w' b = 11 ∧ cd_ln w' b = 3 ∧ L b = 0 ∧ ∀ f, f < n → obF w w' b c L f
theorem obP_step {w v : cd_Wd} {a b q n : Nat} {c : Nat → Nat} {L : Nat → Nat} (ha : cd_kd w a = 6) (h : obP w v a b c L n) (hq : cd_kd v q = 0) (hn : n < 3) : obP w (cd_wO (cd_wI (cd_wN v q 8 0) 97 q 0 (-1)) 1005 b n (some q)) a b (fun f => if f = n then q else c f) (fun y => if y = q then n + 1 else L y) (n + 1) := by
  obtain ⟨hF, h1, h2, h3, h4, h5, h6, h7⟩ := h
  have ha' : cd_kd v a = 6 := (hF.k (by omega)).trans ha
  have hab : ¬ a = q := fun e => by rw [e, hq] at ha'; cases ha'
  have hbq : ¬ b = q := fun e => by rw [e, hq] at h4; cases h4
  have hwq : cd_kd w q = 0 := hF.new hq
  refine ⟨hF.tr (((cd_Fr.wN hq).tr (cd_Fr.wI (Or.inr hwq))).tr (cd_Fr.wO (Or.inr h1))), h1, ?_, ?_, ?_, ?_, ?_, fun f hf => ?_⟩
  · simp [I_wO, I_wI, I_wN, hab, h2]
  · simp [O_wO, O_wI, O_wN, hab, h3]
  · simp [kd_wO, kd_wI, kd_wN, hbq, h4]
  · simp [ln_wO, ln_wI, ln_wN, hbq, h5]
  · simp [hbq, h6]
  · by_cases e : f = n
    · subst e
      refine ⟨?_, ?_, ?_, ?_, ?_, ?_, ?_⟩ <;> simp [kd_wO, kd_wI, kd_wN, I_wO, I_wI, I_wN, O_wO, O_wI, O_wN, hwq]
    · obtain ⟨g1, g2, g3, g4, g5, g6, g7⟩ := h7 f (by omega)
      have hc : ¬ c f = q := fun z => by rw [z, hq] at g2; cases g2
      refine ⟨?_, ?_, ?_, ?_, ?_, ?_, ?_⟩ <;> simp [kd_wO, kd_wI, kd_wN, I_wO, I_wI, I_wN, O_wO, O_wI, O_wN, e, hc, hbq, g1, g2, g3, g4, g5, g6, g7]
set_option maxHeartbeats 4000000 in
set_option maxRecDepth 100000 in
theorem ct_Ob_init {G : cd_Gl} {l : Launch} {w : cd_Wd} {Q : cd_Out → cd_Wd → Prop} {a : Nat} (ha : cd_kd w a = 6) (h : ∀ w' b c L, obP w w' a b c L 3 → Q (.inl none) w') : cd_Ct G l y_Ob_init 2 4 12 [.ref a] w Q := by
  refine cd_ofW cw_Ob_init (by simp [Value.category, cat_rf]) (Nat.le_of_ble_eq_true rfl) fun C O => ?_
  change cd_Go G l C _ 0 0 w 0 [some (.ref a), none] []
  first | refine g_aload_n O 0 d_Ob_init_0 rfl rfl ?_ | refine g_aload_nq O 0 d_Ob_init_0 rfl rfl ?_
  refine g_obj O ml_Ob_3 im_JO_init cw_JO_init d_Ob_init_1 rfl (Nat.le_of_ble_eq_true rfl) (Nat.le_of_ble_eq_true rfl) ?_
  first | refine g_aload_n O 0 d_Ob_init_4 rfl rfl ?_ | refine g_aload_nq O 0 d_Ob_init_4 rfl rfl ?_
  refine g_iconst (v := 3) O d_Ob_init_5 (by decide) ?_
  refine g_anew (N := 3) O 5 rfl rfl kl_Ob_9 d_Ob_init_6 (by decide) (by decide) (by decide) (Nat.le_of_ble_eq_true rfl) (Nat.le_of_ble_eq_true rfl) (fun b6 z6 => ?_)
  have hab : ¬ a = b6 := fun e => by rw [e, z6] at ha; cases ha
  first | refine g_putS O c_Ob 1 (by decide) rfl (by rw [kd_wN, if_neg hab]; exact ha) (Or.inr ⟨rfl, rfl, rfl⟩) lk_Ob_11 d_Ob_init_9 ?_ | refine g_putO O c_Ob 1 (by decide) rfl (by rw [kd_wN, if_neg hab]; exact ha) (Or.inr ⟨rfl, rfl, rfl⟩) lk_Ob_11 d_Ob_init_9 ?_
  refine g_iconst (v := 0) O d_Ob_init_12 (by decide) ?_
  refine g_istore_n O 1 d_Ob_init_13 rfl (Nat.le_of_ble_eq_true rfl) ?_
  have loop : ∀ (j : Nat) (v : cd_Wd), j ≤ 3 → (∃ c L, obP w v a b6 c L j) → cd_Go G l C (cd_MQ G (cx_s C) (cx_b C) 4 12 Q) (1 + j) (3 + 3 * j) v 14 [some (.ref a), some (.int (nI j))] [] := by
    refine lp (3) (P := fun j v => ∃ c L, obP w v a b6 c L j) (g := fun j v => cd_Go G l C (cd_MQ G (cx_s C) (cx_b C) 4 12 Q) (1 + j) (3 + 3 * j) v 14 [some (.ref a), some (.int (nI j))] []) (fun v hP => ?_) (fun j v hj hP ih => ?_)
    · skip
      obtain ⟨c, L, hP⟩ := hP
      refine g_iload_n O 1 d_Ob_init_14 rfl rfl ?_
      refine g_iconst (v := 3) O d_Ob_init_15 (by decide) ?_
      refine g_icmp_ge O 38 d_Ob_init_16 (by decide) (fun c16 => ?_) (fun c16 => ?_)
      · refine g_ret O d_Ob_init_38 (Nat.le_of_ble_eq_true rfl) (Nat.le_of_ble_eq_true rfl) ?_
        exact h v b6 c L hP
      · exact absurd (show (3 : Int32) ≤ nI 3 from by decide) c16
    · skip
      obtain ⟨c, L, hP⟩ := hP
      have ha1 : cd_kd v a = 6 := (hP.1.k (by omega)).trans ha
      refine g_iload_n O 1 d_Ob_init_14 rfl rfl ?_
      refine g_iconst (v := 3) O d_Ob_init_15 (by decide) ?_
      refine g_icmp_ge O 38 d_Ob_init_16 (by decide) (fun c16 => ?_) (fun c16 => ?_)
      · exact absurd c16 (nI_ge (b := 3) hj (by omega))
      · first | refine g_aload_n O 0 d_Ob_init_19 rfl rfl ?_ | refine g_aload_nq O 0 d_Ob_init_19 rfl rfl ?_
        refine g_getS O c_Ob 1 (by decide) rfl ha1 lk_Ob_11 d_Ob_init_20 hP.2.2.2.1 ?_
        refine g_iload_n O 1 d_Ob_init_23 rfl rfl ?_
        refine g_new O c_Fi kl_Ob_9 ia_Fi in_Fi d_Ob_init_24 (by show 1 + j + 1 ≤ 4; omega) (by show 3 + 3 * j + 3 ≤ 12; omega) (fun b24 z24 => ?_)
        refine g_dup O d_Ob_init_27 (by first | rfl | exact cat_rf _) ?_
        have hbq : ¬ b6 = b24 := fun e => by have h4 := hP.2.2.2.2.1; rw [e, z24] at h4; cases h4
        refine g_calli (N := 1) (mc := 0) (ms := 0) (av := []) O cw_Fi_init pl_Fi rfl ml_Ob_17 im_Fi_init rfl d_Ob_init_28 rfl (Nat.le_of_ble_eq_true rfl) (Nat.le_of_ble_eq_true rfl) (by show 1 + j + 1 + 0 ≤ 4; omega) (by show 3 + 3 * j + 3 + 0 ≤ 12; omega) ?_
        refine ct_Fi_init (by rw [kd_wN, if_pos rfl]) ?_
        change cd_Go _ _ _ _ _ _ _ _ _ _
        first | refine g_aast (q := q_Fi) O 5 3 rfl rfl rfl (by rw [kd_wI, kd_wN, if_neg hbq]; exact hP.2.2.2.2.1) (by rw [kd_wI, kd_wN, if_pos rfl]) (by rw [ln_wI, ln_wN, if_neg hbq, hP.2.2.2.2.2.1]; exact ix_in hj (by omega)) d_Ob_init_31 ?_ | refine g_aastN (D := "CapabilityDomains$Field") O 5 rfl rfl (by rw [kd_wI, kd_wN, if_neg hbq]; exact hP.2.2.2.2.1) (by rw [ln_wI, ln_wN, if_neg hbq, hP.2.2.2.2.2.1]; exact ix_in hj (by omega)) d_Ob_init_31 ?_ | refine g_aastq (q := q_Fi) O 5 3 rfl rfl rfl (by rw [kd_wI, kd_wN, if_neg hbq]; exact hP.2.2.2.2.1) (by rw [kd_wI, kd_wN, if_pos rfl]) (by rw [ln_wI, ln_wN, if_neg hbq, hP.2.2.2.2.2.1]; exact ix_in hj (by omega)) d_Ob_init_31 ?_
        first | refine g_iinc O d_Ob_init_32 rfl (ic1 _) ?_ | refine g_iinc O d_Ob_init_32 rfl rfl ?_
        refine g_goto O 14 d_Ob_init_35 (by decide) ?_
        rw [nI_clamp (by omega)]
        exact ih _ ⟨_, _, obP_step ha hP z24 hj⟩
  refine loop 0 _ (by omega) ⟨fun _ => 0, fun _ => 0, (cd_Fr.wN z6).tr (cd_Fr.wO (Or.inl rfl)), z6, ?_, ?_, ?_, ?_, rfl, fun f hf => by omega⟩
  · simp [I_wO, I_wN, hab]
  · simp [O_wO]
  · simp [kd_wO, kd_wN]
  · simp [ln_wO, ln_wN]
/-- a new domain: b its objects' array, ob its objects, fa their fields' arrays, fi the fields -/
def doO (w w' : cd_Wd) (b : Nat) (ob fa : Nat → Nat) (fi : Nat → Nat → Nat) (L : Nat → Nat × Nat × Nat) (o : Nat) : Prop := cd_O w' 1004 b o = some (ob o) ∧ cd_kd w' (ob o) = 6 ∧ cd_I w' 64 (ob o) 0 = 0 ∧ cd_O w' 65 (ob o) 0 = some (fa o) ∧ cd_kd w' (fa o) = 11 ∧ cd_ln w' (fa o) = 3 ∧ cd_kd w (ob o) = 0 ∧ cd_kd w (fa o) = 0 ∧ L (ob o) = (4, o, 0) ∧ L (fa o) = (5, o, 0) ∧
  ∀ f, f < 3 → cd_O w' 1005 (fa o) f = some (fi o f) ∧ cd_kd w' (fi o f) = 8 ∧ cd_I w' 96 (fi o f) 0 = 0 ∧ cd_I w' 97 (fi o f) 0 = -1 ∧ cd_O w' 98 (fi o f) 0 = none ∧ cd_kd w (fi o f) = 0 ∧ L (fi o f) = (6, o, f)
def doP (w w' : cd_Wd) (a b : Nat) (ob fa : Nat → Nat) (fi : Nat → Nat → Nat) (L : Nat → Nat × Nat × Nat) (n : Nat) : Prop := cd_Fr w w' (fun y => y = a ∨ cd_kd w y = 0) ∧ cd_kd w b = 0 ∧ cd_I w' 32 a 0 = cd_I w 32 a 0 ∧ cd_O w' 33 a 0 = some b ∧ cd_kd w' b = 9 ∧ cd_ln w' b = 12 ∧ L b = (2, 0, 0) ∧ ∀ o, o < n → doO w w' b ob fa fi L o
theorem doP_step {w v v2 : cd_Wd} {a b q n : Nat} {ob fa : Nat → Nat} {fi : Nat → Nat → Nat} {L : Nat → Nat × Nat × Nat} {b' : Nat} {c' : Nat → Nat} {L' : Nat → Nat} (ha : cd_kd w a = 4) (h : doP w v a b ob fa fi L n) (hq : cd_kd v q = 0) (hn : n < 12) (h' : obP (cd_wN v q 6 0) v2 q b' c' L' 3) :
    doP w (cd_wO v2 1004 b n (some q)) a b (fun o => if o = n then q else ob o) (fun o => if o = n then b' else fa o) (fun o f => if o = n then c' f else fi o f)
      (fun y => if y = q then (4, n, 0) else if cd_kd v y = 0 then (if L' y = 0 then (5, n, 0) else (6, n, L' y - 1)) else L y) (n + 1) := by
  obtain ⟨hF, h1, h2, h3, h4, h5, h6, h7⟩ := h
  obtain ⟨k0, k1, k2, k3, k4, k5, k6, k7⟩ := h'
  have ha' : cd_kd v a = 4 := (hF.k (by omega)).trans ha
  have hab : ¬ a = q := fun e => by rw [e, hq] at ha'; cases ha'
  have hbq : ¬ b = q := fun e => by rw [e, hq] at h4; cases h4
  have hwq : cd_kd w q = 0 := hF.new hq
  have hF2 : cd_Fr v v2 (fun _ => False) := ((cd_Fr.wN hq).tr k0).drop fun y hy => by
    rcases hy with rfl | hy
    · exact Or.inr hq
    · rw [kd_wN] at hy
      split at hy
      · cases hy
      · exact Or.inr hy
  have fresh : ∀ y, cd_kd (cd_wN v q 6 0) y = 0 → cd_kd v y = 0 ∧ ¬ y = q := fun y hy => by
    rw [kd_wN] at hy
    split at hy
    · cases hy
    · next e => exact ⟨hy, e⟩
  have hv2q : cd_kd v2 q = 6 := by
    have := (k0 q (by rw [kd_wN, if_pos rfl]; decide)).1
    rw [this, kd_wN, if_pos rfl]
  have keep : ∀ y, cd_kd v y ≠ 0 → cd_kd v2 y = cd_kd v y ∧ cd_ln v2 y = cd_ln v y ∧ (∀ t j, cd_I v2 t y j = cd_I v t y j) ∧ ∀ t j, cd_O v2 t y j = cd_O v t y j := fun y hy => ⟨hF2.k hy, hF2.l hy, hF2.I hy id, hF2.O hy id⟩
  obtain ⟨a1, a2, a3, a4⟩ := keep a (by omega)
  obtain ⟨b1, b2, b3, b4⟩ := keep b (by omega)
  refine ⟨hF.tr ((hF2.up fun _ _ z => z.elim).tr (cd_Fr.wO (Or.inr h1))), h1, ?_, ?_, ?_, ?_, ?_, fun o ho => ?_⟩
  · rw [I_wO, a3, h2]
  · rw [O_wO, if_neg (fun z => by simp at z), a4, h3]
  · rw [kd_wO, b1, h4]
  · rw [ln_wO, b2, h5]
  · simp [hbq, h4, h6]
  · by_cases e : o = n
    · subst e
      obtain ⟨f1, f2⟩ := fresh b' k1
      refine ⟨?_, ?_, ?_, ?_, ?_, ?_, ?_, ?_, ?_, ?_, fun f hf => ?_⟩
      · simp [O_wO]
      · simpa [kd_wO] using hv2q
      · simpa [I_wO, I_wN] using k2
      · simpa [O_wO] using k3
      · simpa [kd_wO] using k4
      · simpa [ln_wO] using k5
      · simpa using hwq
      · simpa using hF.new f1
      · simp
      · simp [f1, f2, k6]
      · obtain ⟨g1, g2, g3, g4, g5, g6, g7⟩ := k7 f hf
        obtain ⟨e1, e2⟩ := fresh _ g6
        refine ⟨?_, ?_, ?_, ?_, ?_, ?_, ?_⟩
        · simpa [O_wO] using g1
        · simpa [kd_wO] using g2
        · simpa [I_wO] using g3
        · simpa [I_wO] using g4
        · simpa [O_wO] using g5
        · simpa using hF.new e1
        · simp [e1, e2, g7]
    · obtain ⟨g1, g2, g3, g4, g5, g6, g7, g8, g9, g10, g11⟩ := h7 o (by omega)
      have n1 : ¬ ob o = q := fun z => by rw [z, hq] at g2; cases g2
      have n2 : ¬ fa o = q := fun z => by rw [z, hq] at g5; cases g5
      obtain ⟨c1, c2, c3, c4⟩ := keep (ob o) (by omega)
      obtain ⟨d1, d2, d3, d4⟩ := keep (fa o) (by omega)
      refine ⟨?_, ?_, ?_, ?_, ?_, ?_, ?_, ?_, ?_, ?_, fun f hf => ?_⟩
      · simpa [O_wO, e, b4] using g1
      · simpa [kd_wO, e, c1] using g2
      · simpa [I_wO, e, c3] using g3
      · simpa [O_wO, e, c4] using g4
      · simpa [kd_wO, e, d1] using g5
      · simpa [ln_wO, e, d2] using g6
      · simpa [e] using g7
      · simpa [e] using g8
      · simp [e, n1, g2, g9]
      · simp [e, n2, g5, g10]
      · obtain ⟨m1, m2, m3, m4, m5, m6, m7⟩ := g11 f hf
        have n3 : ¬ fi o f = q := fun z => by rw [z, hq] at m2; cases m2
        obtain ⟨e1, e2, e3, e4⟩ := keep (fi o f) (by omega)
        refine ⟨?_, ?_, ?_, ?_, ?_, ?_, ?_⟩
        · simpa [O_wO, e, d4] using m1
        · simpa [kd_wO, e, e1] using m2
        · simpa [I_wO, e, e3] using m3
        · simpa [I_wO, e, e3] using m4
        · simpa [O_wO, e, e4] using m5
        · simpa [e] using m6
        · simp [e, n3, m2, m7]
set_option maxHeartbeats 4000000 in
set_option maxRecDepth 100000 in
theorem ct_Do_init {G : cd_Gl} {l : Launch} {w : cd_Wd} {Q : cd_Out → cd_Wd → Prop} {a : Nat} (ha : cd_kd w a = 4) (h : ∀ v b ob fa fi L q, doP w v a b ob fa fi L 12 → cd_kd v q = 0 → Q (.inl none) (cd_wO (cd_wN v q 13 8) 34 a 0 (some q))) : cd_Ct G l y_Do_init 3 62 188 [.ref a] w Q := by
  refine cd_ofW cw_Do_init (by simp [Value.category, cat_rf]) (Nat.le_of_ble_eq_true rfl) fun C O => ?_
  change cd_Go G l C _ 0 0 w 0 [some (.ref a), none] []
  first | refine g_aload_n O 0 d_Do_init_0 rfl rfl ?_ | refine g_aload_nq O 0 d_Do_init_0 rfl rfl ?_
  refine g_obj O ml_Do_3 im_JO_init cw_JO_init d_Do_init_1 rfl (Nat.le_of_ble_eq_true rfl) (Nat.le_of_ble_eq_true rfl) ?_
  first | refine g_aload_n O 0 d_Do_init_4 rfl rfl ?_ | refine g_aload_nq O 0 d_Do_init_4 rfl rfl ?_
  refine g_bipush (v := 12) O d_Do_init_5 (by decide) ?_
  refine g_anew (N := 12) O 4 rfl rfl kl_Do_9 d_Do_init_7 (by decide) (by decide) (by decide) (Nat.le_of_ble_eq_true rfl) (Nat.le_of_ble_eq_true rfl) (fun b7 z7 => ?_)
  have hab : ¬ a = b7 := fun e => by rw [e, z7] at ha; cases ha
  first | refine g_putS O c_Do 1 (by decide) rfl (by rw [kd_wN, if_neg hab]; exact ha) (Or.inr ⟨rfl, rfl, rfl⟩) lk_Do_11 d_Do_init_10 ?_ | refine g_putO O c_Do 1 (by decide) rfl (by rw [kd_wN, if_neg hab]; exact ha) (Or.inr ⟨rfl, rfl, rfl⟩) lk_Do_11 d_Do_init_10 ?_
  refine g_iconst (v := 0) O d_Do_init_13 (by decide) ?_
  refine g_istore_n O 1 d_Do_init_14 rfl (Nat.le_of_ble_eq_true rfl) ?_
  have loop : ∀ (j : Nat) (v : cd_Wd), j ≤ 12 → (∃ ob fa fi L, doP w v a b7 ob fa fi L j) → cd_Go G l C (cd_MQ G (cx_s C) (cx_b C) 62 188 Q) (1 + 5 * j) (12 + 14 * j) v 15 [some (.ref a), some (.int (nI j))] [] := by
    refine lp (12) (P := fun j v => ∃ ob fa fi L, doP w v a b7 ob fa fi L j) (g := fun j v => cd_Go G l C (cd_MQ G (cx_s C) (cx_b C) 62 188 Q) (1 + 5 * j) (12 + 14 * j) v 15 [some (.ref a), some (.int (nI j))] []) (fun v hP => ?_) (fun j v hj hP ih => ?_)
    · skip
      obtain ⟨ob, fa, fi, L, hP⟩ := hP
      have ha1 : cd_kd v a = 4 := (hP.1.k (by omega)).trans ha
      refine g_iload_n O 1 d_Do_init_15 rfl rfl ?_
      refine g_bipush (v := 12) O d_Do_init_16 (by decide) ?_
      refine g_icmp_ge O 40 d_Do_init_18 (by decide) (fun c18 => ?_) (fun c18 => ?_)
      · first | refine g_aload_n O 0 d_Do_init_40 rfl rfl ?_ | refine g_aload_nq O 0 d_Do_init_40 rfl rfl ?_
        refine g_bipush (v := 8) O d_Do_init_41 (by decide) ?_
        refine g_anew (N := 8) O 6 rfl rfl kl_Do_18 d_Do_init_43 (by decide) (by decide) (by decide) (Nat.le_of_ble_eq_true rfl) (Nat.le_of_ble_eq_true rfl) (fun b43 z43 => ?_)
        have hab : ¬ a = b43 := fun e => by rw [e, z43] at ha1; cases ha1
        first | refine g_putS O c_Do 2 (by decide) rfl (by rw [kd_wN, if_neg hab]; exact ha1) (Or.inr ⟨rfl, rfl, rfl⟩) lk_Do_20 d_Do_init_46 ?_ | refine g_putO O c_Do 2 (by decide) rfl (by rw [kd_wN, if_neg hab]; exact ha1) (Or.inr ⟨rfl, rfl, rfl⟩) lk_Do_20 d_Do_init_46 ?_
        refine g_ret O d_Do_init_49 (Nat.le_of_ble_eq_true rfl) (Nat.le_of_ble_eq_true rfl) ?_
        exact h v b7 ob fa fi L b43 hP z43
      · exact absurd (show (12 : Int32) ≤ nI 12 from by decide) c18
    · skip
      obtain ⟨ob, fa, fi, L, hP⟩ := hP
      have ha1 : cd_kd v a = 4 := (hP.1.k (by omega)).trans ha
      refine g_iload_n O 1 d_Do_init_15 rfl rfl ?_
      refine g_bipush (v := 12) O d_Do_init_16 (by decide) ?_
      refine g_icmp_ge O 40 d_Do_init_18 (by decide) (fun c18 => ?_) (fun c18 => ?_)
      · exact absurd c18 (nI_ge (b := 12) hj (by omega))
      · first | refine g_aload_n O 0 d_Do_init_21 rfl rfl ?_ | refine g_aload_nq O 0 d_Do_init_21 rfl rfl ?_
        refine g_getS O c_Do 1 (by decide) rfl ha1 lk_Do_11 d_Do_init_22 hP.2.2.2.1 ?_
        refine g_iload_n O 1 d_Do_init_25 rfl rfl ?_
        refine g_new O c_Ob kl_Do_9 ia_Ob in_Ob d_Do_init_26 (by show 1 + 5 * j + 1 ≤ 62; omega) (by show 12 + 14 * j + 2 ≤ 188; omega) (fun b26 z26 => ?_)
        refine g_dup O d_Do_init_29 (by first | rfl | exact cat_rf _) ?_
        have hbq : ¬ b7 = b26 := fun e => by have h4 := hP.2.2.2.2.1; rw [e, z26] at h4; cases h4
        refine g_calli (N := 2) (mc := 4) (ms := 12) (av := []) O cw_Ob_init pl_Ob rfl ml_Do_17 im_Ob_init rfl d_Do_init_30 rfl (Nat.le_of_ble_eq_true rfl) (Nat.le_of_ble_eq_true rfl) (by show 1 + 5 * j + 1 + 4 ≤ 62; omega) (by show 12 + 14 * j + 2 + 12 ≤ 188; omega) ?_
        refine ct_Ob_init (by rw [kd_wN, if_pos rfl]) (fun v2 b' c' L' hN => ?_)
        have hk2 : cd_kd v2 b7 = 9 := by rw [hN.1.k (by rw [kd_wN, if_neg hbq, hP.2.2.2.2.1]; decide), kd_wN, if_neg hbq]; exact hP.2.2.2.2.1
        have hl2 : cd_ln v2 b7 = 12 := by rw [hN.1.l (by rw [kd_wN, if_neg hbq, hP.2.2.2.2.1]; decide), ln_wN, if_neg hbq]; exact hP.2.2.2.2.2.1
        have hq2 : cd_kd v2 b26 = 6 := by rw [hN.1.k (by rw [kd_wN, if_pos rfl]; decide), kd_wN, if_pos rfl]
        change cd_Go _ _ _ _ _ _ _ _ _ _
        first | refine g_aast (q := q_Ob) O 4 2 rfl rfl rfl hk2 hq2 (by rw [hl2]; exact ix_in hj (by omega)) d_Do_init_33 ?_ | refine g_aastN (D := "CapabilityDomains$DomainObject") O 4 rfl rfl hk2 (by rw [hl2]; exact ix_in hj (by omega)) d_Do_init_33 ?_ | refine g_aastq (q := q_Ob) O 4 2 rfl rfl rfl hk2 hq2 (by rw [hl2]; exact ix_in hj (by omega)) d_Do_init_33 ?_
        first | refine g_iinc O d_Do_init_34 rfl (ic1 _) ?_ | refine g_iinc O d_Do_init_34 rfl rfl ?_
        refine g_goto O 15 d_Do_init_37 (by decide) ?_
        rw [nI_clamp (by omega)]
        exact ih _ ⟨_, _, _, _, doP_step ha hP z26 hj hN⟩
  refine loop 0 _ (by omega) ⟨fun _ => 0, fun _ => 0, fun _ _ => 0, fun _ => (2, 0, 0), (cd_Fr.wN z7).tr (cd_Fr.wO (Or.inl rfl)), z7, ?_, ?_, ?_, ?_, rfl, fun f hf => by omega⟩
  · simp [I_wO, I_wN, hab]
  · simp [O_wO]
  · simp [kd_wO, kd_wN]
  · simp [ln_wO, ln_wN]
set_option maxHeartbeats 4000000 in
set_option maxRecDepth 100000 in
theorem ct_Ca_init {G : cd_Gl} {l : Launch} {w : cd_Wd} {Q : cd_Out → cd_Wd → Prop} {a hm : Nat} {tg r u : Int32} {pa : Option Nat} (ha : cd_kd w a = 10) (h : Q (.inl none) (cd_wI (cd_wI (cd_wO (cd_wI (cd_wO w 128 a 0 (some hm)) 129 a 0 tg) 130 a 0 pa) 131 a 0 r) 132 a 0 u)) : cd_Ct G l y_Ca_init 1 0 0 [.ref a, .ref hm, .int tg, va_rf pa, .int r, .int u] w Q := by
  refine cd_ofW cw_Ca_init (by cases pa <;> simp [Value.category, va_rf]) (Nat.le_of_ble_eq_true rfl) fun C O => ?_
  change cd_Go G l C _ 0 0 w 0 [some (.ref a), some (.ref hm), some (.int tg), some (va_rf pa), some (.int r), some (.int u)] []
  first | refine g_aload_n O 0 d_Ca_init_0 rfl rfl ?_ | refine g_aload_nq O 0 d_Ca_init_0 rfl rfl ?_
  refine g_obj O ml_Ca_1 im_JO_init cw_JO_init d_Ca_init_1 rfl (Nat.le_of_ble_eq_true rfl) (Nat.le_of_ble_eq_true rfl) ?_
  first | refine g_aload_n O 0 d_Ca_init_4 rfl rfl ?_ | refine g_aload_nq O 0 d_Ca_init_4 rfl rfl ?_
  first | refine g_aload_n O 1 d_Ca_init_5 rfl rfl ?_ | refine g_aload_nq O 1 d_Ca_init_5 rfl rfl ?_
  first | refine g_putS O c_Ca 0 (by decide) rfl (by assumption) (Or.inr ⟨rfl, rfl, rfl⟩) lk_Ca_7 d_Ca_init_6 ?_ | refine g_putO O c_Ca 0 (by decide) rfl (by assumption) (Or.inr ⟨rfl, rfl, rfl⟩) lk_Ca_7 d_Ca_init_6 ?_
  first | refine g_aload_n O 0 d_Ca_init_9 rfl rfl ?_ | refine g_aload_nq O 0 d_Ca_init_9 rfl rfl ?_
  refine g_iload_n O 2 d_Ca_init_10 rfl rfl ?_
  refine g_putI O c_Ca 1 (by decide) rfl (by assumption) (Or.inl rfl) (Or.inr ⟨rfl, rfl, rfl⟩) lk_Ca_13 d_Ca_init_11 ?_
  first | refine g_aload_n O 0 d_Ca_init_14 rfl rfl ?_ | refine g_aload_nq O 0 d_Ca_init_14 rfl rfl ?_
  first | refine g_aload_n O 3 d_Ca_init_15 rfl rfl ?_ | refine g_aload_nq O 3 d_Ca_init_15 rfl rfl ?_
  first | refine g_putS O c_Ca 2 (by decide) rfl (by assumption) (Or.inr ⟨rfl, rfl, rfl⟩) lk_Ca_17 d_Ca_init_16 ?_ | refine g_putO O c_Ca 2 (by decide) rfl (by assumption) (Or.inr ⟨rfl, rfl, rfl⟩) lk_Ca_17 d_Ca_init_16 ?_
  first | refine g_aload_n O 0 d_Ca_init_19 rfl rfl ?_ | refine g_aload_nq O 0 d_Ca_init_19 rfl rfl ?_
  refine g_iload O d_Ca_init_20 rfl ?_
  refine g_putI O c_Ca 3 (by decide) rfl (by assumption) (Or.inl rfl) (Or.inr ⟨rfl, rfl, rfl⟩) lk_Ca_21 d_Ca_init_22 ?_
  first | refine g_aload_n O 0 d_Ca_init_25 rfl rfl ?_ | refine g_aload_nq O 0 d_Ca_init_25 rfl rfl ?_
  refine g_iload O d_Ca_init_26 rfl ?_
  refine g_putI O c_Ca 4 (by decide) rfl (by assumption) (Or.inl rfl) (Or.inl rfl) lk_Ca_24 d_Ca_init_28 ?_
  refine g_ret O d_Ca_init_31 (Nat.le_of_ble_eq_true rfl) (Nat.le_of_ble_eq_true rfl) ?_
  exact h
set_option maxHeartbeats 4000000 in
set_option maxRecDepth 100000 in
theorem ct_Re_init {G : cd_Gl} {l : Launch} {w : cd_Wd} {Q : cd_Out → cd_Wd → Prop} {a : Nat} (ha : cd_kd w a = 12) (h : ∀ b1 b2 b3, cd_kd w b1 = 0 → cd_kd w b2 = 0 → cd_kd w b3 = 0 → ¬ b1 = b2 → ¬ b1 = b3 → ¬ b2 = b3 → Q (.inl none) (cd_wO (cd_wN (cd_wO (cd_wN (cd_wO (cd_wN w b1 1 12) 161 a 0 (some b1)) b2 1 12) 162 a 0 (some b2)) b3 3 12) 163 a 0 (some b3))) : cd_Ct G l y_Re_init 1 3 36 [.ref a] w Q := by
  refine cd_ofW cw_Re_init (by simp [Value.category, cat_rf]) (Nat.le_of_ble_eq_true rfl) fun C O => ?_
  change cd_Go G l C _ 0 0 w 0 [some (.ref a)] []
  first | refine g_aload_n O 0 d_Re_init_0 rfl rfl ?_ | refine g_aload_nq O 0 d_Re_init_0 rfl rfl ?_
  refine g_obj O ml_Re_3 im_JO_init cw_JO_init d_Re_init_1 rfl (Nat.le_of_ble_eq_true rfl) (Nat.le_of_ble_eq_true rfl) ?_
  first | refine g_aload_n O 0 d_Re_init_4 rfl rfl ?_ | refine g_aload_nq O 0 d_Re_init_4 rfl rfl ?_
  refine g_bipush (v := 12) O d_Re_init_5 (by decide) ?_
  refine g_newa (N := 12) O 0 rfl rfl (Or.inl ⟨rfl, rfl⟩) d_Re_init_7 (by decide) (by decide) (by decide) (Nat.le_of_ble_eq_true rfl) (Nat.le_of_ble_eq_true rfl) (fun b7 z7 => ?_)
  have a1 : ¬ a = b7 := fun e => by rw [e, z7] at ha; cases ha
  first | refine g_putS O c_Re 1 (by decide) rfl (by rw [kd_wN, if_neg a1]; exact ha) (Or.inr ⟨rfl, rfl, rfl⟩) lk_Re_9 d_Re_init_9 ?_ | refine g_putO O c_Re 1 (by decide) rfl (by rw [kd_wN, if_neg a1]; exact ha) (Or.inr ⟨rfl, rfl, rfl⟩) lk_Re_9 d_Re_init_9 ?_
  first | refine g_aload_n O 0 d_Re_init_12 rfl rfl ?_ | refine g_aload_nq O 0 d_Re_init_12 rfl rfl ?_
  refine g_bipush (v := 12) O d_Re_init_13 (by decide) ?_
  refine g_newa (N := 12) O 0 rfl rfl (Or.inl ⟨rfl, rfl⟩) d_Re_init_15 (by decide) (by decide) (by decide) (Nat.le_of_ble_eq_true rfl) (Nat.le_of_ble_eq_true rfl) (fun b15 z15 => ?_)
  have y15 : ¬ b15 = b7 := fun e => by rw [kd_wO, kd_wN, if_pos e] at z15; cases z15
  rw [kd_wO, kd_wN, if_neg y15] at z15
  have a2 : ¬ a = b15 := fun e => by rw [e, z15] at ha; cases ha
  first | refine g_putS O c_Re 2 (by decide) rfl (by rw [kd_wN, if_neg a2, kd_wO, kd_wN, if_neg a1]; exact ha) (Or.inr ⟨rfl, rfl, rfl⟩) lk_Re_15 d_Re_init_17 ?_ | refine g_putO O c_Re 2 (by decide) rfl (by rw [kd_wN, if_neg a2, kd_wO, kd_wN, if_neg a1]; exact ha) (Or.inr ⟨rfl, rfl, rfl⟩) lk_Re_15 d_Re_init_17 ?_
  first | refine g_aload_n O 0 d_Re_init_20 rfl rfl ?_ | refine g_aload_nq O 0 d_Re_init_20 rfl rfl ?_
  refine g_bipush (v := 12) O d_Re_init_21 (by decide) ?_
  refine g_newa (N := 12) O 1 rfl rfl (Or.inl ⟨rfl, rfl⟩) d_Re_init_23 (by decide) (by decide) (by decide) (Nat.le_of_ble_eq_true rfl) (Nat.le_of_ble_eq_true rfl) (fun b23 z23 => ?_)
  rw [kd_wO, kd_wN] at z23
  split at z23
  · cases z23
  next y23 =>
  rw [kd_wO, kd_wN] at z23
  split at z23
  · cases z23
  next y24 =>
  have a3 : ¬ a = b23 := fun e => by rw [e, z23] at ha; cases ha
  first | refine g_putS O c_Re 3 (by decide) rfl (by rw [kd_wN, if_neg a3, kd_wO, kd_wN, if_neg a2, kd_wO, kd_wN, if_neg a1]; exact ha) (Or.inr ⟨rfl, rfl, rfl⟩) lk_Re_18 d_Re_init_25 ?_ | refine g_putO O c_Re 3 (by decide) rfl (by rw [kd_wN, if_neg a3, kd_wO, kd_wN, if_neg a2, kd_wO, kd_wN, if_neg a1]; exact ha) (Or.inr ⟨rfl, rfl, rfl⟩) lk_Re_18 d_Re_init_25 ?_
  refine g_ret O d_Re_init_28 (Nat.le_of_ble_eq_true rfl) (Nat.le_of_ble_eq_true rfl) ?_
  exact h b7 b15 b23 z7 z15 z23 (Ne.symm y15) (Ne.symm y24) (Ne.symm y23)
end
section
/-! ===== frames keep the state; what is made new ===== -/
theorem rep_kp {w w' : cd_Wd} {x : Nat} {A : cd_A} {σ : cd_S} {P : Nat → Prop} (h : cd_Rep w x A σ) (hF : cd_Fr w w' P) (hP : ∀ a, cd_ow x A σ a → ¬ P a) {k d o f : Nat} (hv : cd_va σ k d o f) :
    cd_kd w' (A k d o f) = cd_kd w (A k d o f) ∧ cd_ln w' (A k d o f) = cd_ln w (A k d o f) ∧ (∀ t j, cd_I w' t (A k d o f) j = cd_I w t (A k d o f) j) ∧ ∀ t j, cd_O w' t (A k d o f) j = cd_O w t (A k d o f) j := by
  have he := rep_ex h hv
  have hn := hP _ (ow_at hv)
  exact ⟨hF.k he, hF.l he, hF.I he hn, hF.O he hn⟩
theorem rep_fr {w w' : cd_Wd} {x : Nat} {A : cd_A} {σ : cd_S} {P : Nat → Prop} (h : cd_Rep w x A σ) (hF : cd_Fr w w' P) (hP : ∀ a, cd_ow x A σ a → ¬ P a) : cd_Rep w' x A σ := by
  have hx : cd_kd w x ≠ 0 := by rw [h.top.1]; decide
  have hnx := hP x (Or.inl rfl)
  have K := fun {k d o f : Nat} (hv : cd_va σ k d o f) => rep_kp h hF hP hv
  have xk := hF.k hx
  have xI := hF.I hx hnx
  have xO := hF.O hx hnx
  obtain ⟨a0k, a0l, a0I, a0O⟩ := K (k := 0) (d := 0) (o := 0) (f := 0) ⟨rfl, rfl, rfl⟩
  obtain ⟨a7k, a7l, a7I, a7O⟩ := K (k := 7) (d := 0) (o := 0) (f := 0) ⟨rfl, rfl, rfl⟩
  obtain ⟨a9k, a9l, a9I, a9O⟩ := K (k := 9) (d := 0) (o := 0) (f := 0) ⟨rfl, rfl, rfl⟩
  obtain ⟨a10k, a10l, a10I, a10O⟩ := K (k := 10) (d := 0) (o := 0) (f := 0) ⟨rfl, rfl, rfl⟩
  obtain ⟨a11k, a11l, a11I, a11O⟩ := K (k := 11) (d := 0) (o := 0) (f := 0) ⟨rfl, rfl, rfl⟩
  obtain ⟨a12k, a12l, a12I, a12O⟩ := K (k := 12) (d := 0) (o := 0) (f := 0) ⟨rfl, rfl, rfl⟩
  refine ⟨?_, fun d hd => ?_, fun d o hd ho => ?_, fun d o f hd ho hf => ?_, fun d i hd hi => ?_, fun c hc => ?_, h.i, h.wf⟩
  · have ht := h.top
    simpa only [rp_x, xk, xI, xO, a0k, a0l, a7k, a7l, a9k, a9O, a10k, a10l, a11k, a11l, a12k, a12l] using ht
  · obtain ⟨b1, b2, b3, b4⟩ := K (k := 1) (d := d) (o := 0) (f := 0) ⟨hd, rfl, rfl⟩
    obtain ⟨c1, c2, c3, c4⟩ := K (k := 2) (d := d) (o := 0) (f := 0) ⟨hd, rfl, rfl⟩
    obtain ⟨e1, e2, e3, e4⟩ := K (k := 3) (d := d) (o := 0) (f := 0) ⟨hd, rfl, rfl⟩
    simpa only [a0O, b1, b3, b4, c1, c2, e1, e2] using h.d hd
  · obtain ⟨b1, b2, b3, b4⟩ := K (k := 2) (d := d) (o := 0) (f := 0) ⟨hd, rfl, rfl⟩
    obtain ⟨c1, c2, c3, c4⟩ := K (k := 4) (d := d) (o := o) (f := 0) ⟨hd, ho, rfl⟩
    obtain ⟨e1, e2, e3, e4⟩ := K (k := 5) (d := d) (o := o) (f := 0) ⟨hd, ho, rfl⟩
    simpa only [b4, c1, c3, c4, e1, e2] using h.o hd ho
  · obtain ⟨b1, b2, b3, b4⟩ := K (k := 5) (d := d) (o := o) (f := 0) ⟨hd, ho, rfl⟩
    obtain ⟨c1, c2, c3, c4⟩ := K (k := 6) (d := d) (o := o) (f := f) ⟨hd, ho, hf⟩
    simpa only [b4, c1, c3, c4] using h.f hd ho hf
  · obtain ⟨b1, b2, b3, b4⟩ := K (k := 3) (d := d) (o := 0) (f := 0) ⟨hd, rfl, rfl⟩
    simpa only [b4] using h.s hd hi
  · obtain ⟨b1, b2, b3, b4⟩ := K (k := 8) (d := c) (o := 0) (f := 0) ⟨hc, rfl, rfl⟩
    simpa only [a7O, b1, b3, b4] using h.c hc
/-- the state, one domain more -/
def addD (σ : cd_S) : cd_S := (sD σ + 1, σ.2)
theorem sE_aD (σ : cd_S) (d : Nat) : sE (addD σ) d = sE σ d := rfl
theorem sT_aD (σ : cd_S) (d o : Nat) : sT (addD σ) d o = sT σ d o := rfl
theorem sF_aD (σ : cd_S) (d o f : Nat) : sF (addD σ) d o f = sF σ d o f := rfl
theorem sS_aD (σ : cd_S) (d i : Nat) : sS (addD σ) d i = sS σ d i := rfl
theorem kH_aD (σ : cd_S) (c : Nat) : kH (addD σ) c = kH σ c := rfl
theorem kT_aD (σ : cd_S) (c : Nat) : kT (addD σ) c = kT σ c := rfl
theorem kP_aD (σ : cd_S) (c : Nat) : kP (addD σ) c = kP σ c := rfl
theorem kR_aD (σ : cd_S) (c : Nat) : kR (addD σ) c = kR σ c := rfl
theorem kU_aD (σ : cd_S) (c : Nat) : kU (addD σ) c = kU σ c := rfl
theorem kV_aD (σ : cd_S) (c : Nat) : kV (addD σ) c = kV σ c := rfl
theorem kX_aD (σ : cd_S) (c : Nat) : kX (addD σ) c = kX σ c := rfl
/-- what is not yet made is as new -/
def dfl (σ : cd_S) : Prop := ∀ d, sD σ ≤ d → sE σ d = false ∧ (∀ o, sT σ d o = false) ∧ (∀ o f, sF σ d o f = zF) ∧ ∀ i, sS σ d i = none
def nA (A : cd_A) (D q b s : Nat) (ob fa : Nat → Nat) (fi : Nat → Nat → Nat) : cd_A := fun k d o f => if d = D ∧ 1 ≤ k ∧ k ≤ 6 then (match k with
  | 1 => q
  | 2 => b
  | 3 => s
  | 4 => ob o
  | 5 => fa o
  | _ => fi o f) else A k d o f
theorem nA_o {A : cd_A} {D q b s : Nat} {ob fa : Nat → Nat} {fi : Nat → Nat → Nat} {k d o f : Nat} (h : ¬ (d = D ∧ 1 ≤ k ∧ k ≤ 6)) : nA A D q b s ob fa fi k d o f = A k d o f := if_neg h
set_option maxHeartbeats 2000000 in
theorem rep_newD {w v : cd_Wd} {x q b s : Nat} {A : cd_A} {σ : cd_S} {ob fa : Nat → Nat} {fi : Nat → Nat → Nat} {L : Nat → Nat × Nat × Nat} (hR : cd_Rep w x A σ) (hq : cd_kd w q = 0) (hN : doP (cd_wN w q 4 0) v q b ob fa fi L 12) (hs : cd_kd v s = 0) (h6 : sD σ < 6) (hz : dfl σ) :
    cd_Rep (cd_wI (cd_wO (cd_wO (cd_wN v s 13 8) 34 q 0 (some s)) 1003 (A 0 0 0 0) (sD σ) (some q)) 1 x 0 (nI (sD σ + 1))) x (nA A (sD σ) q b s ob fa fi) (addD σ) ∧ cd_Fr w (cd_wI (cd_wO (cd_wO (cd_wN v s 13 8) 34 q 0 (some s)) 1003 (A 0 0 0 0) (sD σ) (some q)) 1 x 0 (nI (sD σ + 1))) (cd_ow x A σ) ∧
    ∀ a, cd_ow x (nA A (sD σ) q b s ob fa fi) (addD σ) a → cd_ow x A σ a ∨ cd_kd w a = 0 := by
  obtain ⟨n0, n1, n2, n3, n4, n5, n6, n7⟩ := hN
  have hvq : cd_kd v q = 4 := by rw [n0.k (by rw [kd_wN, if_pos rfl]; decide), kd_wN, if_pos rfl]
  have hqs : ¬ q = s := fun e => by rw [e, hs] at hvq; cases hvq
  have hbs : ¬ b = s := fun e => by rw [e, hs] at n4; cases n4
  have fr1 : ∀ y, cd_kd (cd_wN w q 4 0) y = 0 → cd_kd w y = 0 ∧ ¬ y = q := fun y hy => by
    rw [kd_wN] at hy
    split at hy
    · cases hy
    · next e => exact ⟨hy, e⟩
  have hws : cd_kd w s = 0 := (fr1 s (n0.new hs)).1
  obtain ⟨hwb, hbq⟩ := fr1 b n1
  have hF2 : cd_Fr w (cd_wO (cd_wN v s 13 8) 34 q 0 (some s)) (fun _ => False) := by
    have h1 : cd_Fr w (cd_wO (cd_wN v s 13 8) 34 q 0 (some s)) (fun y => cd_kd w y = 0) := ((cd_Fr.wN hq).tr (n0.up fun y hy hz => ?_)).tr ((cd_Fr.wN hs).tr (cd_Fr.wO hq))
    · exact h1.drop fun y hy => Or.inr hy
    · rcases hz with rfl | hz
      · exact hq
      · exact absurd hz hy
  have hR2 : cd_Rep (cd_wO (cd_wN v s 13 8) 34 q 0 (some s)) x A σ := rep_fr hR hF2 fun _ _ => id
  have ho : ∀ a, cd_ow x A σ a → cd_kd w a ≠ 0 := fun a ha => by
    rcases ha with rfl | ⟨k, d, o, f, hv, rfl⟩
    · rw [hR.top.1]; decide
    · exact rep_ex hR hv
  have hx0 : ¬ x = q := fun e => ho x (Or.inl rfl) (e ▸ hq)
  have hA0q : ¬ A 0 0 0 0 = q := fun e => ho _ (ow_at (k := 0) ⟨rfl, rfl, rfl⟩) (e ▸ hq)
  have nn : ∀ k o f, cd_va (addD σ) k (sD σ) o f → 1 ≤ k → k ≤ 6 → cd_kd w (nA A (sD σ) q b s ob fa fi k (sD σ) o f) = 0 ∧ (fun y => if y = q then (1, 0, 0) else if y = s then (3, 0, 0) else L y) (nA A (sD σ) q b s ob fa fi k (sD σ) o f) = (k, o, f) := by
    intro k o f hv h1 h2
    match k, hv, h1, h2 with
    | 1, hv, _, _ => obtain ⟨-, rfl, rfl⟩ := hv; exact ⟨by simpa [nA] using hq, by simp [nA]⟩
    | 2, hv, _, _ => obtain ⟨-, rfl, rfl⟩ := hv; exact ⟨by simpa [nA] using hwb, by simp [nA, hbq, hbs, n6]⟩
    | 3, hv, _, _ => obtain ⟨-, rfl, rfl⟩ := hv; exact ⟨by simpa [nA] using hws, by simp [nA, Ne.symm hqs]⟩
    | 4, hv, _, _ =>
      obtain ⟨-, ho, rfl⟩ := hv
      obtain ⟨g1, g2, g3, g4, g5, g6, g7, g8, g9, g10, g11⟩ := n7 o ho
      obtain ⟨e1, e2⟩ := fr1 _ g7
      have e3 : ¬ ob o = s := fun e => by rw [e, hs] at g2; cases g2
      exact ⟨by simpa [nA] using e1, by simp [nA, e2, e3, g9]⟩
    | 5, hv, _, _ =>
      obtain ⟨-, ho, rfl⟩ := hv
      obtain ⟨g1, g2, g3, g4, g5, g6, g7, g8, g9, g10, g11⟩ := n7 o ho
      obtain ⟨e1, e2⟩ := fr1 _ g8
      have e3 : ¬ fa o = s := fun e => by rw [e, hs] at g5; cases g5
      exact ⟨by simpa [nA] using e1, by simp [nA, e2, e3, g10]⟩
    | 6, hv, _, _ =>
      obtain ⟨-, ho, hf⟩ := hv
      obtain ⟨g1, g2, g3, g4, g5, g6, g7⟩ := (n7 o ho).2.2.2.2.2.2.2.2.2.2 f hf
      obtain ⟨e1, e2⟩ := fr1 _ g6
      have e3 : ¬ fi o f = s := fun e => by rw [e, hs] at g2; cases g2
      exact ⟨by simpa [nA] using e1, by simp [nA, e2, e3, g7]⟩
    | k + 7, _, _, h2 => omega
  have oo : ∀ k d o f, cd_va (addD σ) k d o f → ¬ (d = sD σ ∧ 1 ≤ k ∧ k ≤ 6) → cd_va σ k d o f := by
    intro k d o f hv hn
    match k, hv with
    | 0, hv => exact hv
    | 1, hv => exact ⟨by have h1 : d < sD σ + 1 := hv.1; omega, hv.2⟩
    | 2, hv => exact ⟨by have h1 : d < sD σ + 1 := hv.1; omega, hv.2⟩
    | 3, hv => exact ⟨by have h1 : d < sD σ + 1 := hv.1; omega, hv.2⟩
    | 4, hv => exact ⟨by have h1 : d < sD σ + 1 := hv.1; omega, hv.2⟩
    | 5, hv => exact ⟨by have h1 : d < sD σ + 1 := hv.1; omega, hv.2⟩
    | 6, hv => exact ⟨by have h1 : d < sD σ + 1 := hv.1; omega, hv.2⟩
    | 7, hv => exact hv
    | 8, hv => exact hv
    | 9, hv => exact hv
    | 10, hv => exact hv
    | 11, hv => exact hv
    | 12, hv => exact hv
    | k + 13, hv => exact hv.elim
  obtain ⟨t1, t2, t3, t4, t5, t6, t7, t8, t9, t10, t11, t12, t13, t14, t15, t16, t17, t18, t19, t20, t21, t22⟩ := hR2.top
  have aA : ∀ k d o f, ¬ (1 ≤ k ∧ k ≤ 6) → nA A (sD σ) q b s ob fa fi k d o f = A k d o f := fun k d o f h => nA_o fun z => h z.2
  have aD : ∀ k d o f, d < sD σ → nA A (sD σ) q b s ob fa fi k d o f = A k d o f := fun k d o f h => nA_o fun z => by omega
  refine ⟨⟨?_, fun d hd => ?_, fun d o hd ho' => ?_, fun d o f hd ho' hf => ?_, fun d i hd hi => ?_, fun c hc => ?_, ?_, ?_⟩, ?_, ?_⟩
  · unfold rp_x
    rw [aA 0 0 0 0 (by omega), aA 7 0 0 0 (by omega), aA 9 0 0 0 (by omega), aA 10 0 0 0 (by omega), aA 11 0 0 0 (by omega), aA 12 0 0 0 (by omega)]
    simp only [kd_wI, ln_wI, O_wI] at *
    refine ⟨t1, ?_, t3, t4, ?_, t6, t7, ?_, t9, ?_, t11, t12, ?_, t14, t15, ?_, t17, t18, ?_, ?_, ?_, t22⟩
    · rw [O_wO, if_neg (by simp)]; exact t2
    · rw [O_wO, if_neg (by simp)]; exact t5
    · rw [O_wO, if_neg (by simp)]; exact t8
    · rw [O_wO, if_neg (by simp)]; exact t10
    · rw [O_wO, if_neg (by simp)]; exact t13
    · rw [O_wO, if_neg (by simp)]; exact t16
    · rw [I_wI, if_pos ⟨rfl, rfl, rfl⟩]; rfl
    · exact h6
    · rw [I_wI, if_neg (by simp), I_wO]; exact t21
  · by_cases e : d = sD σ
    · subst e
      rw [aA 0 0 0 0 (by omega)]
      obtain ⟨z1, -⟩ := hz (sD σ) (Nat.le_refl _)
      have z1' : sE (addD σ) (sD σ) = false := z1
      rw [z1']
      have i32 : cd_I (cd_wN w q 4 0) 32 q 0 = 0 := by rw [I_wN, if_pos rfl]
      rw [i32] at n2
      simp [nA, kd_wI, kd_wO, kd_wN, ln_wI, ln_wO, ln_wN, O_wI, O_wO, O_wN, I_wI, I_wO, I_wN, hqs, hbs, hvq, n2, n3, n4, n5, cd_b]
    · have hd' : d < sD σ := by have h1 : d < sD σ + 1 := hd; omega
      rw [aA 0 0 0 0 (by omega), aD 1 d 0 0 hd', aD 2 d 0 0 hd', aD 3 d 0 0 hd']
      have q1 := hR2.d hd'
      simpa [sE_aD, sT_aD, sF_aD, sS_aD, kH_aD, kT_aD, kP_aD, kR_aD, kU_aD, kV_aD, kX_aD, kd_wI, ln_wI, O_wI, I_wI, kd_wO (cd_wO _ _ _ _ _), ln_wO (cd_wO _ _ _ _ _), O_wO (cd_wO _ _ _ _ _), I_wO (cd_wO _ _ _ _ _), e] using q1
  · by_cases e : d = sD σ
    · subst e
      obtain ⟨g1, g2, g3, g4, g5, g6, g7, g8, g9, g10, g11⟩ := n7 o ho'
      have e3 : ¬ ob o = s := fun e => by rw [e, hs] at g2; cases g2
      have e4 : ¬ fa o = s := fun e => by rw [e, hs] at g5; cases g5
      obtain ⟨-, z2, -⟩ := hz (sD σ) (Nat.le_refl _)
      have z2' : sT (addD σ) (sD σ) o = false := z2 o
      rw [z2']
      simp [nA, kd_wI, kd_wO, kd_wN, ln_wI, ln_wO, ln_wN, O_wI, O_wO, O_wN, I_wI, I_wO, I_wN, hbs, e3, e4, g1, g2, g3, g4, g5, g6, cd_b]
    · have hd' : d < sD σ := by have h1 : d < sD σ + 1 := hd; omega
      rw [aD 2 d 0 0 hd', aD 4 d o 0 hd', aD 5 d o 0 hd']
      have q1 := hR2.o hd' ho'
      simpa [sE_aD, sT_aD, sF_aD, sS_aD, kH_aD, kT_aD, kP_aD, kR_aD, kU_aD, kV_aD, kX_aD, kd_wI, ln_wI, O_wI, I_wI, kd_wO (cd_wO _ _ _ _ _), ln_wO (cd_wO _ _ _ _ _), O_wO (cd_wO _ _ _ _ _), I_wO (cd_wO _ _ _ _ _)] using q1
  · have eA : (fun c => nA A (sD σ) q b s ob fa fi 8 c 0 0) = fun c => A 8 c 0 0 := by funext c; exact aA 8 c 0 0 (by omega)
    rw [eA]
    by_cases e : d = sD σ
    · subst e
      obtain ⟨g1, g2, g3, g4, g5, g6, g7⟩ := (n7 o ho').2.2.2.2.2.2.2.2.2.2 f hf
      have e3 : ¬ fi o f = s := fun e => by rw [e, hs] at g2; cases g2
      have e4 : ¬ fa o = s := fun e => by have g := (n7 o ho').2.2.2.2.1; rw [e, hs] at g; cases g
      obtain ⟨-, -, z3, -⟩ := hz (sD σ) (Nat.le_refl _)
      have z3' : sF (addD σ) (sD σ) o f = zF := z3 o f
      rw [z3']
      simp [nA, kd_wI, kd_wO, kd_wN, ln_wI, ln_wO, ln_wN, O_wI, O_wO, O_wN, I_wI, I_wO, I_wN, e3, e4, g1, g2, g3, g4, g5, zF, cd_l]
    · have hd' : d < sD σ := by have h1 : d < sD σ + 1 := hd; omega
      rw [aD 5 d o 0 hd', aD 6 d o f hd']
      have q1 := hR2.f hd' ho' hf
      simpa [sE_aD, sT_aD, sF_aD, sS_aD, kH_aD, kT_aD, kP_aD, kR_aD, kU_aD, kV_aD, kX_aD, kd_wI, ln_wI, O_wI, I_wI, kd_wO (cd_wO _ _ _ _ _), ln_wO (cd_wO _ _ _ _ _), O_wO (cd_wO _ _ _ _ _), I_wO (cd_wO _ _ _ _ _)] using q1
  · have eA : (fun c => nA A (sD σ) q b s ob fa fi 8 c 0 0) = fun c => A 8 c 0 0 := by funext c; exact aA 8 c 0 0 (by omega)
    rw [eA]
    by_cases e : d = sD σ
    · subst e
      obtain ⟨-, -, -, z4⟩ := hz (sD σ) (Nat.le_refl _)
      have z4' : sS (addD σ) (sD σ) i = none := z4 i
      rw [z4']
      simp [nA, O_wI, O_wO, O_wN]
    · have hd' : d < sD σ := by have h1 : d < sD σ + 1 := hd; omega
      rw [aD 3 d 0 0 hd']
      have q1 := hR2.s hd' hi
      simpa [sE_aD, sT_aD, sF_aD, sS_aD, kH_aD, kT_aD, kP_aD, kR_aD, kU_aD, kV_aD, kX_aD, O_wI, O_wO (cd_wO _ _ _ _ _)] using q1
  · have hc' : c < sC σ := hc
    have eA : (fun c => nA A (sD σ) q b s ob fa fi 8 c 0 0) = fun c => A 8 c 0 0 := by funext c; exact aA 8 c 0 0 (by omega)
    have hh := (hR.wf.2.2.2 c hc').1
    have e1 : nA A (sD σ) q b s ob fa fi 1 (kH (addD σ) c) 0 0 = A 1 (kH σ c) 0 0 := aD 1 _ 0 0 hh
    rw [eA, e1, aA 7 0 0 0 (by omega), aA 8 c 0 0 (by omega)]
    have q1 := hR2.c hc'
    simpa [sE_aD, sT_aD, sF_aD, sS_aD, kH_aD, kT_aD, kP_aD, kR_aD, kU_aD, kV_aD, kX_aD, kd_wI, ln_wI, O_wI, I_wI, kd_wO (cd_wO _ _ _ _ _), ln_wO (cd_wO _ _ _ _ _), O_wO (cd_wO _ _ _ _ _), I_wO (cd_wO _ _ _ _ _)] using q1
  · intro k d o f k' d' o' f' hv hv' he
    by_cases e : d = sD σ ∧ 1 ≤ k ∧ k ≤ 6
    · obtain ⟨rfl, u1, u2⟩ := e
      obtain ⟨m1, m2⟩ := nn k o f hv u1 u2
      by_cases e' : d' = sD σ ∧ 1 ≤ k' ∧ k' ≤ 6
      · obtain ⟨rfl, u3, u4⟩ := e'
        obtain ⟨m3, m4⟩ := nn k' o' f' hv' u3 u4
        rw [he, m4] at m2
        simp only [Prod.mk.injEq] at m2
        exact ⟨m2.1.symm, rfl, m2.2.1.symm, m2.2.2.symm⟩
      · rw [he, nA_o e'] at m1
        exact absurd m1 (rep_ex hR (oo _ _ _ _ hv' e'))
    · by_cases e' : d' = sD σ ∧ 1 ≤ k' ∧ k' ≤ 6
      · obtain ⟨rfl, u3, u4⟩ := e'
        obtain ⟨m3, m4⟩ := nn k' o' f' hv' u3 u4
        rw [← he, nA_o e] at m3
        exact absurd m3 (rep_ex hR (oo _ _ _ _ hv e))
      · rw [nA_o e, nA_o e'] at he
        exact hR.i k d o f k' d' o' f' (oo _ _ _ _ hv e) (oo _ _ _ _ hv' e') he
  · obtain ⟨g1, g2, g3, g4⟩ := hR.wf
    refine ⟨fun d i c hd hi hc => ?_, fun d o f c hd ho hf hc => ?_, fun d o f t hd ho hf ht => ?_, fun c hc => ?_⟩
    · by_cases e : d = sD σ
      · subst e
        have z : sS (addD σ) (sD σ) i = none := (hz (sD σ) (Nat.le_refl _)).2.2.2 i
        rw [z] at hc; cases hc
      · exact g1 d i c (by have h1 : d < sD σ + 1 := hd; omega) hi hc
    · by_cases e : d = sD σ
      · subst e
        have z : sF (addD σ) (sD σ) o f = zF := (hz (sD σ) (Nat.le_refl _)).2.2.1 o f
        rw [z] at hc; cases hc
      · exact g2 d o f c (by have h1 : d < sD σ + 1 := hd; omega) ho hf hc
    · by_cases e : d = sD σ
      · subst e
        have z : sF (addD σ) (sD σ) o f = zF := (hz (sD σ) (Nat.le_refl _)).2.2.1 o f
        rw [z] at ht; cases ht
      · exact g3 d o f t (by have h1 : d < sD σ + 1 := hd; omega) ho hf ht
    · obtain ⟨y1, y2, y3⟩ := g4 c hc
      exact ⟨Nat.lt_succ_of_lt y1, y2, y3⟩
  · exact ((hF2.up fun _ _ z => z.elim).tr (cd_Fr.wO (ow_at (k := 0) ⟨rfl, rfl, rfl⟩))).tr (cd_Fr.wI (Or.inl rfl))
  · rintro a (rfl | ⟨k, d, o, f, hv, rfl⟩)
    · exact Or.inl (Or.inl rfl)
    · by_cases e : d = sD σ ∧ 1 ≤ k ∧ k ≤ 6
      · obtain ⟨rfl, u1, u2⟩ := e
        exact Or.inr (nn k o f hv u1 u2).1
      · rw [nA_o e]
        exact Or.inl (ow_at (oo _ _ _ _ hv e))

/-- the state, one capability more -/
def addK (σ : cd_S) (t : Nat × Nat × Option Nat × Int32 × Int32 × Bool × Bool) : cd_S := (sD σ, sC σ + 1, σ.2.2.1, σ.2.2.2.1, σ.2.2.2.2.1, σ.2.2.2.2.2.1, fun c => if c = sC σ then t else sK σ c)
theorem sK_aK (σ : cd_S) (t : Nat × Nat × Option Nat × Int32 × Int32 × Bool × Bool) (c : Nat) : sK (addK σ t) c = if c = sC σ then t else sK σ c := rfl
def kA (A : cd_A) (D q : Nat) : cd_A := fun k d o f => if k = 8 ∧ d = D then q else A k d o f
theorem kA_n {A : cd_A} {D q k d o f : Nat} (h : ¬ (k = 8 ∧ d = D)) : kA A D q k d o f = A k d o f := if_neg h
theorem kA_8 {A : cd_A} {D q o f : Nat} : kA A D q 8 D o f = q := if_pos ⟨rfl, rfl⟩
set_option maxHeartbeats 2000000 in
theorem rep_newC {w : cd_Wd} {x q : Nat} {A : cd_A} {σ : cd_S} {hm tg : Nat} {pa : Option Nat} {r u : Int32} (hR : cd_Rep w x A σ) (hq : ¬ cd_ow x A σ q) (h1 : cd_kd w q = 10) (h2 : cd_O w 128 q 0 = some (A 1 hm 0 0)) (h3 : cd_I w 129 q 0 = nI tg) (h4 : cd_O w 130 q 0 = pa.map (fun c => A 8 c 0 0)) (h5 : cd_I w 131 q 0 = r) (h6 : cd_I w 132 q 0 = u) (h7 : cd_I w 133 q 0 = 0) (h8 : cd_I w 134 q 0 = 0)
    (hh : hm < sD σ) (ht : tg < 12) (hp : ∀ p, pa = some p → p < sC σ) (h40 : sC σ < 40) : cd_Rep (cd_wI (cd_wO w 1006 (A 7 0 0 0) (sC σ) (some q)) 3 x 0 (nI (sC σ + 1))) x (kA A (sC σ) q) (addK σ (hm, tg, pa, r, u, false, false)) := by
  obtain ⟨t1, t2, t3, t4, t5, t6, t7, t8, t9, t10, t11, t12, t13, t14, t15, t16, t17, t18, t19, t20, t21, t22⟩ := hR.top
  have aA : ∀ k d o f, ¬ k = 8 → kA A (sC σ) q k d o f = A k d o f := fun k d o f h => kA_n fun z => h z.1
  have aC : ∀ c o f, c < sC σ → kA A (sC σ) q 8 c o f = A 8 c o f := fun c o f h => kA_n fun z => by omega
  have mp : ∀ z : Option Nat, (∀ c, z = some c → c < sC σ) → z.map (fun c => kA A (sC σ) q 8 c 0 0) = z.map (fun c => A 8 c 0 0) := by
    intro z hz
    cases z with
    | none => rfl
    | some c => simp only [Option.map_some]; rw [aC c 0 0 (hz c rfl)]
  have oo : ∀ k d o f, cd_va (addK σ (hm, tg, pa, r, u, false, false)) k d o f → ¬ (k = 8 ∧ d = sC σ) → cd_va σ k d o f := by
    intro k d o f hv hn
    match k, hv with
    | 0, hv => exact hv
    | 1, hv => exact hv
    | 2, hv => exact hv
    | 3, hv => exact hv
    | 4, hv => exact hv
    | 5, hv => exact hv
    | 6, hv => exact hv
    | 7, hv => exact hv
    | 8, hv => exact ⟨by have h1 : d < sC σ + 1 := hv.1; omega, hv.2⟩
    | 9, hv => exact hv
    | 10, hv => exact hv
    | 11, hv => exact hv
    | 12, hv => exact hv
    | k + 13, hv => exact hv.elim
  refine ⟨?_, fun d hd => ?_, fun d o hd ho => ?_, fun d o f hd ho hf => ?_, fun d i hd hi => ?_, fun c hc => ?_, ?_, ?_⟩
  · unfold rp_x
    rw [aA 0 0 0 0 (by omega), aA 7 0 0 0 (by omega), aA 9 0 0 0 (by omega), aA 10 0 0 0 (by omega), aA 11 0 0 0 (by omega), aA 12 0 0 0 (by omega)]
    simp only [kd_wI, ln_wI, O_wI, kd_wO, ln_wO] at *
    refine ⟨t1, ?_, t3, t4, ?_, t6, t7, ?_, t9, ?_, t11, t12, ?_, t14, t15, ?_, t17, t18, ?_, t20, ?_, ?_⟩
    · rw [O_wO, if_neg (by simp)]; exact t2
    · rw [O_wO, if_neg (by simp)]; exact t5
    · rw [O_wO, if_neg (by simp)]; exact t8
    · rw [O_wO, if_neg (by simp)]; exact t10
    · rw [O_wO, if_neg (by simp)]; exact t13
    · rw [O_wO, if_neg (by simp)]; exact t16
    · rw [I_wI, if_neg (by simp), I_wO]; exact t19
    · rw [I_wI, if_pos ⟨rfl, rfl, rfl⟩]; rfl
    · exact h40
  · have hd' : d < sD σ := hd
    rw [aA 0 0 0 0 (by omega), aA 1 d 0 0 (by omega), aA 2 d 0 0 (by omega), aA 3 d 0 0 (by omega)]
    have q1 := hR.d hd'
    have e : sE (addK σ (hm, tg, pa, r, u, false, false)) d = sE σ d := rfl
    simpa [e, kd_wI, ln_wI, O_wI, I_wI, kd_wO, ln_wO, O_wO, I_wO] using q1
  · have hd' : d < sD σ := hd
    rw [aA 2 d 0 0 (by omega), aA 4 d o 0 (by omega), aA 5 d o 0 (by omega)]
    have q1 := hR.o hd' ho
    have e : sT (addK σ (hm, tg, pa, r, u, false, false)) d o = sT σ d o := rfl
    simpa [e, kd_wI, ln_wI, O_wI, I_wI, kd_wO, ln_wO, O_wO, I_wO] using q1
  · have hd' : d < sD σ := hd
    have e : sF (addK σ (hm, tg, pa, r, u, false, false)) d o f = sF σ d o f := rfl
    rw [aA 5 d o 0 (by omega), aA 6 d o f (by omega), e, mp _ fun c hc => hR.wf.2.1 d o f c hd' ho hf hc]
    have q1 := hR.f hd' ho hf
    simpa [kd_wI, ln_wI, O_wI, I_wI, kd_wO, ln_wO, O_wO, I_wO] using q1
  · have hd' : d < sD σ := hd
    have e : sS (addK σ (hm, tg, pa, r, u, false, false)) d i = sS σ d i := rfl
    rw [aA 3 d 0 0 (by omega), e, mp _ fun c hc => hR.wf.1 d i c hd' hi hc]
    have q1 := hR.s hd' hi
    have hne : ¬ A 3 d 0 0 = A 7 0 0 0 := fun z => by have := (hR.i 3 d 0 0 7 0 0 0 ⟨hd', rfl, rfl⟩ ⟨rfl, rfl, rfl⟩ z).1; omega
    simpa [O_wI, O_wO, hne] using q1
  · rw [aA 7 0 0 0 (by omega), aA 1 _ 0 0 (by omega)]
    by_cases e : c = sC σ
    · subst e
      simp only [kH, kT, kP, kR, kU, kV, kX, sK_aK, if_true, kA_8]
      rw [mp pa hp]
      simp [O_wI, O_wO, kd_wI, kd_wO, I_wI, I_wO, h1, h2, h3, h4, h5, h6, h7, h8, cd_b]
    · have hc' : c < sC σ := by have h1 : c < sC σ + 1 := hc; omega
      have q1 := hR.c hc'
      have w4 := hR.wf.2.2.2 c hc'
      rw [aC c 0 0 hc']
      have e0 : sK (addK σ (hm, tg, pa, r, u, false, false)) c = sK σ c := by rw [sK_aK, if_neg e]
      have ep : kP (addK σ (hm, tg, pa, r, u, false, false)) c = kP σ c := by rw [kP, e0]; rfl
      rw [ep, mp _ fun p hp => Nat.lt_trans (w4.2.2 p hp) hc']
      simp only [kH, kT, kP, kR, kU, kV, kX, e0] at q1 ⊢
      simpa [O_wI, O_wO, kd_wI, kd_wO, I_wI, I_wO, e] using q1
  · intro k d o f k' d' o' f' hv hv' he
    by_cases e : k = 8 ∧ d = sC σ
    · obtain ⟨rfl, rfl⟩ := e
      obtain ⟨-, rfl, rfl⟩ := hv
      rw [kA_8] at he
      by_cases e' : k' = 8 ∧ d' = sC σ
      · obtain ⟨rfl, rfl⟩ := e'
        obtain ⟨-, rfl, rfl⟩ := hv'
        exact ⟨rfl, rfl, rfl, rfl⟩
      · rw [kA_n e'] at he
        exact absurd (he ▸ ow_at (oo _ _ _ _ hv' e')) hq
    · rw [kA_n e] at he
      by_cases e' : k' = 8 ∧ d' = sC σ
      · obtain ⟨rfl, rfl⟩ := e'
        rw [kA_8] at he
        exact absurd (he ▸ ow_at (oo _ _ _ _ hv e)) hq
      · rw [kA_n e'] at he
        exact hR.i k d o f k' d' o' f' (oo _ _ _ _ hv e) (oo _ _ _ _ hv' e') he
  · obtain ⟨g1, g2, g3, g4⟩ := hR.wf
    refine ⟨fun d i c hd hi hc => Nat.lt_succ_of_lt (g1 d i c hd hi hc), fun d o f c hd ho hf hc => Nat.lt_succ_of_lt (g2 d o f c hd ho hf hc), g3, fun c hc => ?_⟩
    by_cases e : c = sC σ
    · subst e
      simp only [kH, kT, kP, sK_aK, if_true]
      exact ⟨hh, ht, hp⟩
    · have e0 : sK (addK σ (hm, tg, pa, r, u, false, false)) c = sK σ c := by rw [sK_aK, if_neg e]
      have q1 := g4 c (by have h1 : c < sC σ + 1 := hc; omega)
      simp only [kH, kT, kP, e0] at q1 ⊢
      exact q1
end
