def fw_T0 : u_T := fun k => match k with
  | 0 => ("FolderRights", "groups", "LFolderRights$Groups;", true)
  | 1 => ("FolderRights", "nodes", "[LFolderRights$Node;", true)
  | _ => ("FolderRights", "users", "I", false)
def fw_y0 : Nat → FieldType := fun k => match k with
  | 0 => .object "FolderRights$Groups"
  | 1 => .array (.object "FolderRights$Node")
  | _ => .int
theorem fw_n0 : ∀ a, a < 3 → ∀ b, b < 3 → a ≠ b → (fw_T0 a).2.1 ≠ (fw_T0 b).2.1 := by decide +kernel
theorem fw_k0 : ∀ k, k < 3 → parseFieldDescriptor (fw_T0 k).2.2.1 = some (fw_y0 k) := by decide +kernel
theorem fw_i0 : ∀ x ∈ u_ws "FolderRights" fw_T0 3, x ∈ lw_tbl := by
  intro x hx
  obtain ⟨k, hk, rfl⟩ := List.mem_map.mp hx
  have hk := List.mem_range.mp hk
  match k, hk with
  | 0, _ => exact fw_t 122 (by decide +kernel)
  | 1, _ => exact fw_t 124 (by decide +kernel)
  | 2, _ => exact fw_t 126 (by decide +kernel)
  | n + 3, h => exact absurd h (by omega)
def fw_T1 : u_T := fun k => match k with
  | 0 => ("FolderRights$Groups", "size", "I", false)
  | 1 => ("FolderRights$Groups", "userMembers", "[J", true)
  | 2 => ("FolderRights$Groups", "groupMembers", "[J", true)
  | 3 => ("FolderRights$Groups", "groupsIn", "[J", true)
  | _ => ("FolderRights$Groups", "usersIn", "[J", true)
def fw_y1 : Nat → FieldType := fun k => match k with
  | 0 => .int
  | 1 => .array .long
  | 2 => .array .long
  | 3 => .array .long
  | _ => .array .long
theorem fw_n1 : ∀ a, a < 5 → ∀ b, b < 5 → a ≠ b → (fw_T1 a).2.1 ≠ (fw_T1 b).2.1 := by decide +kernel
theorem fw_k1 : ∀ k, k < 5 → parseFieldDescriptor (fw_T1 k).2.2.1 = some (fw_y1 k) := by decide +kernel
theorem fw_i1 : ∀ x ∈ u_ws "FolderRights$Groups" fw_T1 5, x ∈ lw_tbl := by
  intro x hx
  obtain ⟨k, hk, rfl⟩ := List.mem_map.mp hx
  have hk := List.mem_range.mp hk
  match k, hk with
  | 0, _ => exact fw_t 43 (by decide +kernel)
  | 1, _ => exact fw_t 45 (by decide +kernel)
  | 2, _ => exact fw_t 47 (by decide +kernel)
  | 3, _ => exact fw_t 49 (by decide +kernel)
  | 4, _ => exact fw_t 51 (by decide +kernel)
  | n + 5, h => exact absurd h (by omega)
def fw_T2 : u_T := fun k => match k with
  | 0 => ("FolderRights$Node", "number", "I", true)
  | 1 => ("FolderRights$Node", "folder", "Z", true)
  | 2 => ("FolderRights$Node", "entries", "Ljava/util/ArrayList;", true)
  | 3 => ("FolderRights$Node", "parent", "LFolderRights$Node;", false)
  | 4 => ("FolderRights$Node", "owner", "I", false)
  | 5 => ("FolderRights$Node", "blocks", "Z", false)
  | _ => ("FolderRights$Node", "stale", "Z", false)
def fw_y2 : Nat → FieldType := fun k => match k with
  | 0 => .int
  | 1 => .boolean
  | 2 => .object "java/util/ArrayList"
  | 3 => .object "FolderRights$Node"
  | 4 => .int
  | 5 => .boolean
  | _ => .boolean
theorem fw_n2 : ∀ a, a < 7 → ∀ b, b < 7 → a ≠ b → (fw_T2 a).2.1 ≠ (fw_T2 b).2.1 := by decide +kernel
theorem fw_k2 : ∀ k, k < 7 → parseFieldDescriptor (fw_T2 k).2.2.1 = some (fw_y2 k) := by decide +kernel
theorem fw_i2 : ∀ x ∈ u_ws "FolderRights$Node" fw_T2 7, x ∈ lw_tbl := by
  intro x hx
  obtain ⟨k, hk, rfl⟩ := List.mem_map.mp hx
  have hk := List.mem_range.mp hk
  match k, hk with
  | 0, _ => exact fw_t 104 (by decide +kernel)
  | 1, _ => exact fw_t 106 (by decide +kernel)
  | 2, _ => exact fw_t 108 (by decide +kernel)
  | 3, _ => exact fw_t 110 (by decide +kernel)
  | 4, _ => exact fw_t 112 (by decide +kernel)
  | 5, _ => exact fw_t 114 (by decide +kernel)
  | 6, _ => exact fw_t 116 (by decide +kernel)
  | n + 7, h => exact absurd h (by omega)
def fw_T3 : u_T := fun k => match k with
  | 0 => ("FolderRights$Entry", "allows", "Z", true)
  | 1 => ("FolderRights$Entry", "whom", "I", true)
  | 2 => ("FolderRights$Entry", "isGroup", "Z", true)
  | 3 => ("FolderRights$Entry", "rightBits", "I", true)
  | _ => ("FolderRights$Entry", "flags", "I", true)
def fw_y3 : Nat → FieldType := fun k => match k with
  | 0 => .boolean
  | 1 => .int
  | 2 => .boolean
  | 3 => .int
  | _ => .int
theorem fw_n3 : ∀ a, a < 5 → ∀ b, b < 5 → a ≠ b → (fw_T3 a).2.1 ≠ (fw_T3 b).2.1 := by decide +kernel
theorem fw_k3 : ∀ k, k < 5 → parseFieldDescriptor (fw_T3 k).2.2.1 = some (fw_y3 k) := by decide +kernel
theorem fw_i3 : ∀ x ∈ u_ws "FolderRights$Entry" fw_T3 5, x ∈ lw_tbl := by
  intro x hx
  obtain ⟨k, hk, rfl⟩ := List.mem_map.mp hx
  have hk := List.mem_range.mp hk
  match k, hk with
  | 0, _ => exact fw_t 400 (by decide +kernel)
  | 1, _ => exact fw_t 402 (by decide +kernel)
  | 2, _ => exact fw_t 404 (by decide +kernel)
  | 3, _ => exact fw_t 406 (by decide +kernel)
  | 4, _ => exact fw_t 408 (by decide +kernel)
  | n + 5, h => exact absurd h (by omega)
def fw_T4 : u_T := fun k => match k with
  | 0 => ("java/util/AbstractList", "modCount", "I", false)
  | 1 => ("java/util/ArrayList", "elementData", "[Ljava/lang/Object;", false)
  | _ => ("java/util/ArrayList", "size", "I", false)
def fw_y4 : Nat → FieldType := fun k => match k with
  | 0 => .int
  | 1 => .array (.object "java/lang/Object")
  | _ => .int
theorem fw_n4 : ∀ a, a < 3 → ∀ b, b < 3 → a ≠ b → (fw_T4 a).2.1 ≠ (fw_T4 b).2.1 := by decide +kernel
theorem fw_k4 : ∀ k, k < 3 → parseFieldDescriptor (fw_T4 k).2.2.1 = some (fw_y4 k) := by decide +kernel
theorem fw_i4 : ∀ x ∈ u_ws "java/util/ArrayList" fw_T4 3, x ∈ lw_tbl := by
  intro x hx
  obtain ⟨k, hk, rfl⟩ := List.mem_map.mp hx
  have hk := List.mem_range.mp hk
  match k, hk with
  | 0, _ => exact fw_t 85 (by decide +kernel)
  | 1, _ => exact fw_t 81 (by decide +kernel)
  | 2, _ => exact fw_t 83 (by decide +kernel)
  | n + 3, h => exact absurd h (by omega)
def fw_T5 : u_T := fun k => match k with
  | 0 => ("FolderRightsModel", "thrown", "I", false)
  | 1 => ("FolderRightsModel", "users", "I", false)
  | 2 => ("FolderRightsModel", "groups", "I", false)
  | 3 => ("FolderRightsModel", "hasUser", "[Z", true)
  | 4 => ("FolderRightsModel", "hasGroup", "[Z", true)
  | 5 => ("FolderRightsModel", "found", "[Z", true)
  | 6 => ("FolderRightsModel", "inside", "[Z", true)
  | 7 => ("FolderRightsModel", "there", "[Z", true)
  | 8 => ("FolderRightsModel", "folders", "[Z", true)
  | 9 => ("FolderRightsModel", "blocks", "[Z", true)
  | 10 => ("FolderRightsModel", "stales", "[Z", true)
  | 11 => ("FolderRightsModel", "parents", "[I", true)
  | 12 => ("FolderRightsModel", "owners", "[I", true)
  | 13 => ("FolderRightsModel", "many", "[I", true)
  | 14 => ("FolderRightsModel", "allows", "[Z", true)
  | 15 => ("FolderRightsModel", "ofGroup", "[Z", true)
  | 16 => ("FolderRightsModel", "whoms", "[I", true)
  | 17 => ("FolderRightsModel", "bits", "[I", true)
  | 18 => ("FolderRightsModel", "flags", "[I", true)
  | 19 => ("FolderRightsModel", "sort", "I", false)
  | 20 => ("FolderRightsModel", "place", "I", false)
  | _ => ("FolderRightsModel", "position", "I", false)
def fw_y5 : Nat → FieldType := fun k => match k with
  | 0 => .int
  | 1 => .int
  | 2 => .int
  | 3 => .array .boolean
  | 4 => .array .boolean
  | 5 => .array .boolean
  | 6 => .array .boolean
  | 7 => .array .boolean
  | 8 => .array .boolean
  | 9 => .array .boolean
  | 10 => .array .boolean
  | 11 => .array .int
  | 12 => .array .int
  | 13 => .array .int
  | 14 => .array .boolean
  | 15 => .array .boolean
  | 16 => .array .int
  | 17 => .array .int
  | 18 => .array .int
  | 19 => .int
  | 20 => .int
  | _ => .int
theorem fw_n5 : ∀ a, a < 22 → ∀ b, b < 22 → a ≠ b → (fw_T5 a).2.1 ≠ (fw_T5 b).2.1 := by decide +kernel
theorem fw_k5 : ∀ k, k < 22 → parseFieldDescriptor (fw_T5 k).2.2.1 = some (fw_y5 k) := by decide +kernel
theorem fw_i5 : ∀ x ∈ u_ws "FolderRightsModel" fw_T5 22, x ∈ lw_tbl := by
  intro x hx
  obtain ⟨k, hk, rfl⟩ := List.mem_map.mp hx
  have hk := List.mem_range.mp hk
  match k, hk with
  | 0, _ => exact fw_t 657 (by decide +kernel)
  | 1, _ => exact fw_t 659 (by decide +kernel)
  | 2, _ => exact fw_t 661 (by decide +kernel)
  | 3, _ => exact fw_t 663 (by decide +kernel)
  | 4, _ => exact fw_t 665 (by decide +kernel)
  | 5, _ => exact fw_t 667 (by decide +kernel)
  | 6, _ => exact fw_t 669 (by decide +kernel)
  | 7, _ => exact fw_t 671 (by decide +kernel)
  | 8, _ => exact fw_t 673 (by decide +kernel)
  | 9, _ => exact fw_t 675 (by decide +kernel)
  | 10, _ => exact fw_t 677 (by decide +kernel)
  | 11, _ => exact fw_t 679 (by decide +kernel)
  | 12, _ => exact fw_t 681 (by decide +kernel)
  | 13, _ => exact fw_t 683 (by decide +kernel)
  | 14, _ => exact fw_t 685 (by decide +kernel)
  | 15, _ => exact fw_t 687 (by decide +kernel)
  | 16, _ => exact fw_t 689 (by decide +kernel)
  | 17, _ => exact fw_t 691 (by decide +kernel)
  | 18, _ => exact fw_t 693 (by decide +kernel)
  | 19, _ => exact fw_t 695 (by decide +kernel)
  | 20, _ => exact fw_t 697 (by decide +kernel)
  | 21, _ => exact fw_t 699 (by decide +kernel)
  | n + 22, h => exact absurd h (by omega)
abbrev fw_cl : List vw_C := [("FolderRights", fw_T0, 3), ("FolderRights$Groups", fw_T1, 5), ("FolderRights$Node", fw_T2, 7), ("FolderRights$Entry", fw_T3, 5), ("java/util/ArrayList", fw_T4, 3), ("FolderRightsModel", fw_T5, 22)]
