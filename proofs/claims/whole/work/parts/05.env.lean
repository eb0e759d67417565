/-! What lies outside the world and is never written: the class's constant rows, the texts, what a throw asks. By program (wip/whole/gen/envpart.py). -/
def zNs : List Cond := [(Jvm.Cond.methodLinkNest "SceneText" (9 : Nat) ({ cls := "SceneText$Reader", name := "<init>", desc := "()V" } : Jvm.MethodName) "SceneText"), (Jvm.Cond.methodLinkNest "SceneText$Reader" (11 : Nat) ({ cls := "SceneText$Tape", name := "<init>", desc := "()V" } : Jvm.MethodName) "SceneText"), (Jvm.Cond.fieldLinkNest "SceneText" (41 : Nat) "SceneText$Tape" "used" "I" "SceneText"), (Jvm.Cond.fieldLinkNest "SceneText$Reader" (60 : Nat) "SceneText$Tape" "head" "I" "SceneText"), (Jvm.Cond.fieldLinkNest "SceneText$Reader" (118 : Nat) "SceneText$Tape" "numberAt" "I" "SceneText"), (Jvm.Cond.fieldLinkNest "SceneText" (53 : Nat) "SceneText$Tape" "wrong" "I" "SceneText"), (Jvm.Cond.fieldLinkNest "SceneText" (56 : Nat) "SceneText$Tape" "wrongAt" "I" "SceneText"), (Jvm.Cond.fieldLinkNest "SceneText" (23 : Nat) "SceneText$Reader" "tape" "LSceneText$Tape;" "SceneText")]
def zCa : List Cond := [(Jvm.Cond.castable "java/lang/IllegalArgumentException" "java/lang/IllegalArgumentException"), (Jvm.Cond.declares ({ cls := "java/lang/RuntimeException", name := "<init>", desc := "()V" } : Jvm.MethodName)), (Jvm.Cond.declares ({ cls := "java/lang/RuntimeException", name := "<init>", desc := "(Ljava/lang/String;)V" } : Jvm.MethodName)), (Jvm.Cond.declares ({ cls := "java/lang/Exception", name := "<init>", desc := "()V" } : Jvm.MethodName)), (Jvm.Cond.declares ({ cls := "java/lang/Exception", name := "<init>", desc := "(Ljava/lang/String;)V" } : Jvm.MethodName)), (Jvm.Cond.declares ({ cls := "java/lang/Throwable", name := "<init>", desc := "()V" } : Jvm.MethodName)), (Jvm.Cond.declares ({ cls := "java/lang/Throwable", name := "<init>", desc := "(Ljava/lang/String;)V" } : Jvm.MethodName))]
def zTn : Nat → String := fun k => match k with
  | 0 => "FIRST_VIEW"
  | 1 => "FACTS"
  | 2 => "STARTS"
  | 3 => "WIDTHS"
  | _ => "MOST"
def zTl : Nat → List Int32 := fun k => match k with
  | 0 => [0, 0, 0, 0, 0, 0, 32, 0, 0, (-65536), 16384]
  | 1 => [3, 6, 3, 11, 4]
  | 2 => [11, 24611, 24707, 47283, 47811]
  | 3 => [3075, 6, 1411, 11, 132]
  | _ => [8, 16, 16, 48, 32]
def zSo : Nat → String × Nat × String := fun k => match k with
  | 0 => ("SceneText$Tape", 42, "the text is wrong")
  | 1 => ("SceneText$Reader", 72, "textures")
  | 2 => ("SceneText$Reader", 74, "materials")
  | 3 => ("SceneText$Reader", 76, "meshes")
  | 4 => ("SceneText$Reader", 78, "nodes")
  | 5 => ("SceneText$Reader", 80, "tracks")
  | 6 => ("SceneText$Reader", 82, "camera")
  | 7 => ("SceneText$Reader", 84, "light")
  | 8 => ("SceneText$Reader", 163, "move")
  | 9 => ("SceneText$Reader", 167, "turn")
  | 10 => ("SceneText$Reader", 182, "focus")
  | 11 => ("SceneText$Reader", 184, "toward")
  | 12 => ("SceneText$Reader", 186, "ambient")
  | 13 => ("SceneText$Reader", 108, "side")
  | 14 => ("SceneText$Reader", 121, "wrap")
  | 15 => ("SceneText$Reader", 123, "soft")
  | 16 => ("SceneText$Reader", 125, "texels")
  | 17 => ("SceneText$Reader", 131, "colour")
  | 18 => ("SceneText$Reader", 133, "texture")
  | 19 => ("SceneText$Reader", 138, "both")
  | 20 => ("SceneText$Reader", 140, "material")
  | 21 => ("SceneText$Reader", 142, "points")
  | 22 => ("SceneText$Reader", 146, "normals")
  | 23 => ("SceneText$Reader", 150, "places")
  | 24 => ("SceneText$Reader", 154, "faces")
  | 25 => ("SceneText$Reader", 159, "parent")
  | 26 => ("SceneText$Reader", 161, "mesh")
  | 27 => ("SceneText$Reader", 169, "size")
  | 28 => ("SceneText$Reader", 171, "node")
  | 29 => ("SceneText$Reader", 173, "what")
  | 30 => ("SceneText$Reader", 175, "how")
  | 31 => ("SceneText$Reader", 177, "times")
  | _ => ("SceneText$Reader", 180, "values")
/-- the bytes of the text k -/
def zSb : Nat → List Int32 := fun k => match k with
  | 0 => [116, 104, 101, 32, 116, 101, 120, 116, 32, 105, 115, 32, 119, 114, 111, 110, 103]
  | 1 => [116, 101, 120, 116, 117, 114, 101, 115]
  | 2 => [109, 97, 116, 101, 114, 105, 97, 108, 115]
  | 3 => [109, 101, 115, 104, 101, 115]
  | 4 => [110, 111, 100, 101, 115]
  | 5 => [116, 114, 97, 99, 107, 115]
  | 6 => [99, 97, 109, 101, 114, 97]
  | 7 => [108, 105, 103, 104, 116]
  | 8 => [109, 111, 118, 101]
  | 9 => [116, 117, 114, 110]
  | 10 => [102, 111, 99, 117, 115]
  | 11 => [116, 111, 119, 97, 114, 100]
  | 12 => [97, 109, 98, 105, 101, 110, 116]
  | 13 => [115, 105, 100, 101]
  | 14 => [119, 114, 97, 112]
  | 15 => [115, 111, 102, 116]
  | 16 => [116, 101, 120, 101, 108, 115]
  | 17 => [99, 111, 108, 111, 117, 114]
  | 18 => [116, 101, 120, 116, 117, 114, 101]
  | 19 => [98, 111, 116, 104]
  | 20 => [109, 97, 116, 101, 114, 105, 97, 108]
  | 21 => [112, 111, 105, 110, 116, 115]
  | 22 => [110, 111, 114, 109, 97, 108, 115]
  | 23 => [112, 108, 97, 99, 101, 115]
  | 24 => [102, 97, 99, 101, 115]
  | 25 => [112, 97, 114, 101, 110, 116]
  | 26 => [109, 101, 115, 104]
  | 27 => [115, 105, 122, 101]
  | 28 => [110, 111, 100, 101]
  | 29 => [119, 104, 97, 116]
  | 30 => [104, 111, 119]
  | 31 => [116, 105, 109, 101, 115]
  | _ => [118, 97, 108, 117, 101, 115]
/-- where they lie: the constant rows, the texts, their bytes -/
abbrev ZG : Type := (Nat → Nat) × (Nat → Nat) × (Nat → Nat)
/-- the text of the bytes wd lies at q, its bytes at v -/
def zS1 (q v : Nat) (wd : List Int32) (A : Nat → Prop) (U : State) (H : Heap) : Prop := va_O "java/lang/String" q A U H ∧ va_OF "java/lang/String" "coder" "B" (.int 0) q A U H ∧ va_OF "java/lang/String" "value" "[B" (.ref v) q A U H ∧ va_T .byte v wd.length (fun j => .int (wd.getD j 0)) A U H
def zT1 (G : ZG) (k : Nat) (A : Nat → Prop) (U : State) (H : Heap) : Prop := va_Z "SceneText$Scene" (zTn k) "[I" (.ref (G.1 k)) A U H ∧ va_T .int (G.1 k) (zTl k).length (fun j => .int ((zTl k).getD j 0)) A U H
def zE (G : ZG) (A : Nat → Prop) (U : State) (H : Heap) : Prop :=
  (∀ w ∈ zNs, va_Nw w U) ∧ (∀ w ∈ zCa, va_Nw w U) ∧ vx_Zq Bundle.tN "UNASSIGNED_STACK" Bundle.steD A U H ∧ vx_Zq Bundle.tN "SUPPRESSED_SENTINEL" Bundle.listD A U H ∧
  (∀ k, k < 5 → zT1 G k A U H) ∧ va_Z "java/lang/String" "COMPACT_STRINGS" "Z" (.int 1) A U H ∧ va_Zq "jdk/internal/util/Preconditions" "SIOOBE_FORMATTER" "Ljava/util/function/BiFunction;" A U H ∧
  (∀ k, k < 33 → zS1 (G.2.1 k) (G.2.2 k) (zSb k) A U H ∧ vk_R (zSo k).1 (zSo k).2.1 (zSo k).2.2 (G.2.1 k) U)
theorem zNs_warm {u U : State} (hW : u.WarmedH U.vm) (h : ∀ w ∈ zNs, va_Nw w u) : ∀ w ∈ zNs, va_Nw w U := by
  intro w hw
  have h1 := h w hw
  simp only [zNs, List.mem_cons, List.not_mem_nil, or_false] at hw
  rcases hw with rfl | rfl | rfl | rfl | rfl | rfl | rfl | rfl <;> first | exact va_Nw.warmF hW h1 | exact va_Nw.warmM hW h1
theorem zCa_warm {u U : State} (hW : u.WarmedH U.vm) (h : ∀ w ∈ zCa, va_Nw w u) : ∀ w ∈ zCa, va_Nw w U := by
  intro w hw
  have h1 := h w hw
  simp only [zCa, List.mem_cons, List.not_mem_nil, or_false] at hw
  rcases hw with rfl | rfl | rfl | rfl | rfl | rfl | rfl <;> first | exact va_Nw.warmC hW h1 | exact va_Nw.warmD hW h1
theorem zS1_warm {q v : Nat} {wd : List Int32} {A : Nat → Prop} {u U : State} {H : Heap} (hvm : u.vm.Alike U.vm) (h : zS1 q v wd A u H) : zS1 q v wd A U H := ⟨va_O.moved hvm h.1, va_OF.moved hvm h.2.1, va_OF.moved hvm h.2.2.1, va_T.moved hvm h.2.2.2⟩
theorem zS1_kept {q v : Nat} {wd : List Int32} {A : Nat → Prop} {U : State} {H H1 : Heap} (h : zS1 q v wd A U H) (hq : ∀ a : Nat, a < H.size → ¬ A a → H1[a]? = H[a]?) : zS1 q v wd A U H1 := ⟨va_O.kept h.1 hq, va_OF.kept h.2.1 hq, va_OF.kept h.2.2.1 hq, va_T.kept h.2.2.2 hq⟩
theorem zS1_narrow {q v : Nat} {wd : List Int32} {A B : Nat → Prop} {U : State} {H : Heap} (h : zS1 q v wd A U H) (hq : ∀ q, B q → A q) : zS1 q v wd B U H := ⟨va_O.narrow h.1 hq, va_OF.narrow h.2.1 hq, va_OF.narrow h.2.2.1 hq, va_T.narrow h.2.2.2 hq⟩
theorem zE_warm {G : ZG} {A : Nat → Prop} {u U : State} {H : Heap} (hW : u.WarmedH U.vm) (h : zE G A u H) : zE G A U H := by
  obtain ⟨h1, h2, h3, h4, h5, h6, h7, h8⟩ := h
  exact ⟨zNs_warm hW h1, zCa_warm hW h2, vx_Zq.moved hW.alike h3, vx_Zq.moved hW.alike h4, fun k hk => ⟨va_Z.moved hW.alike (h5 k hk).1, va_T.moved hW.alike (h5 k hk).2⟩, va_Z.moved hW.alike h6, va_Zq.moved hW.alike h7, fun k hk => ⟨zS1_warm hW.alike (h8 k hk).1, vk_R.warm hW (h8 k hk).2⟩⟩
theorem zE_kept {G : ZG} {A : Nat → Prop} {U : State} {H H1 : Heap} (h : zE G A U H) (hq : ∀ a : Nat, a < H.size → ¬ A a → H1[a]? = H[a]?) : zE G A U H1 := by
  obtain ⟨h1, h2, h3, h4, h5, h6, h7, h8⟩ := h
  exact ⟨h1, h2, vx_Zq.kept h3 hq, vx_Zq.kept h4 hq, fun k hk => ⟨va_Z.kept (h5 k hk).1 hq, va_T.kept (h5 k hk).2 hq⟩, va_Z.kept h6 hq, va_Zq.kept h7 hq, fun k hk => ⟨zS1_kept (h8 k hk).1 hq, (h8 k hk).2⟩⟩
theorem zE_narrow {G : ZG} {A B : Nat → Prop} {U : State} {H : Heap} (h : zE G A U H) (hq : ∀ q, B q → A q) : zE G B U H := by
  obtain ⟨h1, h2, h3, h4, h5, h6, h7, h8⟩ := h
  exact ⟨h1, h2, vx_Zq.narrow h3 hq, vx_Zq.narrow h4 hq, fun k hk => ⟨va_Z.narrow (h5 k hk).1 hq, va_T.narrow (h5 k hk).2 hq⟩, va_Z.narrow h6 hq, va_Zq.narrow h7 hq, fun k hk => ⟨zS1_narrow (h8 k hk).1 hq, (h8 k hk).2⟩⟩
/-! What every walk here uses: the world at a call and behind it, and that a method that makes nothing leaves the heap's size. zE: what lies outside and is never written (part ahead). -/
section ZBase
variable {p : Program} {l : Launch} {e : Env} {R : Room} {s : State} {m : MethodId} {args : Array Value} {below : List Frame} {meth : Method} {c : Code} {H : Heap} {locs : List Loc} {cells slots : Nat} {Q : State → Prop}
/-- the top of the stack by another name -/
theorem zt_top {pc : Nat} {ls : Array Slot} {rest : List Value} {x y : Int32} (h : x = y) (k : W p l e R s m args below meth c H locs cells slots Q (F0 m pc ls (.int y :: rest))) : W p l e R s m args below meth c H locs cells slots Q (F0 m pc ls (.int x :: rest)) := by
  rw [h]; exact k
/-- the heap by another name -/
theorem zt_heap {H' : Heap} {g : JFrame} (h : H' = H) (k : W p l e R s m args below meth c H' locs cells slots Q g) : W p l e R s m args below meth c H locs cells slots Q g := by
  subst h; exact k
/-- nothing has been made: the heap has its old size -/
theorem zt_size {g : JFrame} (k : H.size = s.heap.size → W p l e R s m args below meth c H locs 0 slots Q g) : W p l e R s m args below meth c H locs 0 slots Q g := by
  intro T hT X
  obtain ⟨-, h2, h3, -⟩ := X.same
  have e1 : (T.setVm s.vm).heap = H := hT
  rw [e1] at h2 h3
  exact k (Nat.le_antisymm h3 h2) T hT X
/-- the heap has its old size: nothing has been made -/
theorem zt_tight {g : JFrame} (hz : H.size = s.heap.size) (k : W p l e R s m args below meth c H locs 0 0 Q g) : W p l e R s m args below meth c H locs cells slots Q g := by
  intro T hT X
  obtain ⟨h1, h2, h3, h4, h5, h6⟩ := X.same
  have e1 : (T.setVm s.vm).heap = H := hT
  have hd : (T.setVm s.vm).heap.toList.drop s.heap.size = [] := List.drop_eq_nil_of_le (by rw [Array.length_toList, e1, hz]; exact Nat.le_refl _)
  refine k T hT ⟨X.admits, X.cas, X.clock, X.frames, X.room, X.hears, X.method, X.code, X.here, X.tail, X.warmed, X.limits, X.bytes, h1, h2, ?_, h4, ?_, h6⟩
  · rw [e1, hz]; exact Nat.le_refl _
  · rw [hd]; exact Nat.le_refl _
end ZBase
/-- a call's start: the world ws in a heap of sz cells -/
def PW (G : ZG) (D : va_G) (tys : List (ClassId × FieldType)) (ws : va_W) (sz : Nat) (U : State) : Prop := U.heap.size = sz ∧ va_P D vwCl ws U.heap ∧ va_K D vwCl tys U ∧ va_D (fun _ => True) ws ∧ zE G (va_A ws sz) U U.heap
/-- a call's end -/
def BW (D : va_G) (ws : va_W) (A : Nat → Prop) (sz : Nat) (t : State) : Prop := va_P D vwCl ws t.heap ∧ va_D A ws ∧ t.heap.size = sz
theorem PW_blind {av : List Value} {G : ZG} {D : va_G} {tys : List (ClassId × FieldType)} {ws : va_W} {sz : Nat} : FrameBlind (va_Pc av (PW G D tys ws sz)) := fun a U g mk q => ⟨q.1, q.2.1, q.2.2.1, va_K.moved (u := U) (U := U.calling g mk a) (Vm.Alike.refl U.vm) q.2.2.2.1, q.2.2.2.2.1, zE_warm (u := U) (U := U.calling g mk a) (State.WarmedH.refl U) q.2.2.2.2.2⟩
theorem PW_at {s : State} {H : Heap} {locs : List Loc} {A : Nat → Prop} {G : ZG} {D : va_G} {tys : List (ClassId × FieldType)} {wc : va_W} (hP : va_P D vwCl wc H) (hK : va_K D vwCl tys s) (hD : va_D A wc) (hE : zE G A s s.heap) (hS : va_S A s.heap H locs) (hF : ∀ q, va_A wc H.size q → A q) : ∀ U : State, U.heap = H → s.WarmedH U.vm → PW G D tys wc H.size U := by
  intro U hU hW
  refine ⟨by rw [hU], by rw [hU]; exact hP, va_K.moved hW.alike hK, hD.weaken (fun _ _ _ _ => trivial), ?_⟩
  rw [hU]
  exact zE_narrow (zE_warm hW (zE_kept hE hS.2.1)) hF
theorem PW_preS {s : State} {H : Heap} {locs : List Loc} {A : Nat → Prop} {G : ZG} {D : va_G} {tys : List (ClassId × FieldType)} {wc : va_W} {av : List Value} (hP : va_P D vwCl wc H) (hK : va_K D vwCl tys s) (hD : va_D A wc) (hE : zE G A s s.heap) (hS : va_S A s.heap H locs) (hF : ∀ q, va_A wc H.size q → A q) : PreS s H (va_Pc av (PW G D tys wc H.size)) av :=
  ⟨PW_blind, fun U hU hW => ⟨rfl, PW_at hP hK hD hE hS hF U hU hW⟩⟩
theorem PW_preV {s : State} {H : Heap} {locs : List Loc} {A : Nat → Prop} {G : ZG} {D : va_G} {tys : List (ClassId × FieldType)} {wc : va_W} {b q0 ci : Nat} {q : vw_C} {fs : List Value} {As : List Value} (hP : va_P D vwCl wc H) (hK : va_K D vwCl tys s) (hD : va_D A wc) (hE : zE G A s s.heap) (hS : va_S A s.heap H locs) (hF : ∀ q, va_A wc H.size q → A q) (hc : vwCl[ci]? = some q) (he : wc[q0]? = some (b, .inr (ci, fs))) : PreV s H q.1 b (va_Pc (.ref b :: As) (PW G D tys wc H.size)) As :=
  ⟨PW_blind, va_recv hK hP hc he, fun U hU hW => ⟨rfl, PW_at hP hK hD hE hS hF U hU hW⟩⟩
/-- what a method's body knows of itself -/
def zC (p : Program) (s : State) (m : MethodId) (args : Array Value) (meth : Method) (c : Code) (cc : ByteArray) (nL : Nat) (rt : Option FieldType) (own : String) (ws : List Cond) : Prop := p.tables.exec = Jvm.exec ∧ c.code = cc ∧ meth.sig.returnType = rt ∧ c.maxLocals = nL ∧ s.vm.findClass own = some m.cls ∧ (∀ w ∈ ws, w.before args s = true) ∧ meth.locks = false
theorem i_Rd : ∀ w ∈ u_ws R_Rd F_Rd 2, w ∈ ZW := by
  intro w hw
  have e : u_ws R_Rd F_Rd 2 = [(Jvm.Cond.laysFinal "SceneText$Reader" "SceneText$Reader" "tape" "LSceneText$Tape;"), (Jvm.Cond.lays "SceneText$Reader" "SceneText$Reader" "draft" "LSceneText$Scene;")] := by decide +kernel
  rw [e] at hw
  simp only [List.mem_cons, List.not_mem_nil, or_false] at hw
  rcases hw with rfl | rfl
  · exact tw_87
  · exact tw_89
theorem i_Sc : ∀ w ∈ u_ws R_Sc F_Sc 2, w ∈ ZW := by
  intro w hw
  have e : u_ws R_Sc F_Sc 2 = [(Jvm.Cond.laysFinal "SceneText$Scene" "SceneText$Scene" "counts" "[I"), (Jvm.Cond.laysFinal "SceneText$Scene" "SceneText$Scene" "cells" "[I")] := by decide +kernel
  rw [e] at hw
  simp only [List.mem_cons, List.not_mem_nil, or_false] at hw
  rcases hw with rfl | rfl
  · exact tw_78
  · exact tw_80
theorem i_Tp : ∀ w ∈ u_ws R_Tp F_Tp 7, w ∈ ZW := by
  intro w hw
  have e : u_ws R_Tp F_Tp 7 = [(Jvm.Cond.laysFinal "SceneText$Tape" "SceneText$Tape" "bytes" "[B"), (Jvm.Cond.lays "SceneText$Tape" "SceneText$Tape" "used" "I"), (Jvm.Cond.lays "SceneText$Tape" "SceneText$Tape" "textEnd" "I"), (Jvm.Cond.lays "SceneText$Tape" "SceneText$Tape" "head" "I"), (Jvm.Cond.lays "SceneText$Tape" "SceneText$Tape" "numberAt" "I"), (Jvm.Cond.lays "SceneText$Tape" "SceneText$Tape" "wrong" "I"), (Jvm.Cond.lays "SceneText$Tape" "SceneText$Tape" "wrongAt" "I")] := by decide +kernel
  rw [e] at hw
  simp only [List.mem_cons, List.not_mem_nil, or_false] at hw
  rcases hw with rfl | rfl | rfl | rfl | rfl | rfl | rfl
  · exact tw_47
  · exact tw_49
  · exact tw_51
  · exact tw_53
  · exact tw_55
  · exact tw_57
  · exact tw_59
theorem i_St : ∀ w ∈ u_ws R_St F_St 2, w ∈ ZW := by
  intro w hw
  have e : u_ws R_St F_St 2 = [(Jvm.Cond.laysFinal "SceneText" "SceneText" "reader" "LSceneText$Reader;"), (Jvm.Cond.lays "SceneText" "SceneText" "scene" "LSceneText$Scene;")] := by decide +kernel
  rw [e] at hw
  simp only [List.mem_cons, List.not_mem_nil, or_false] at hw
  rcases hw with rfl | rfl
  · exact tw_96
  · exact tw_98
theorem i_Md : ∀ w ∈ u_ws R_Md F_Md 12, w ∈ ZW := by
  intro w hw
  have e : u_ws R_Md F_Md 12 = [(Jvm.Cond.lays "SceneTextModel" "SceneTextModel" "thrown" "I"), (Jvm.Cond.laysFinal "SceneTextModel" "SceneTextModel" "tape" "[B"), (Jvm.Cond.lays "SceneTextModel" "SceneTextModel" "size" "I"), (Jvm.Cond.lays "SceneTextModel" "SceneTextModel" "now" "[I"), (Jvm.Cond.lays "SceneTextModel" "SceneTextModel" "next" "[I"), (Jvm.Cond.lays "SceneTextModel" "SceneTextModel" "wrong" "I"), (Jvm.Cond.lays "SceneTextModel" "SceneTextModel" "wrongAt" "I"), (Jvm.Cond.lays "SceneTextModel" "SceneTextModel" "at" "I"), (Jvm.Cond.lays "SceneTextModel" "SceneTextModel" "end" "I"), (Jvm.Cond.lays "SceneTextModel" "SceneTextModel" "value" "J"), (Jvm.Cond.lays "SceneTextModel" "SceneTextModel" "first" "I"), (Jvm.Cond.lays "SceneTextModel" "SceneTextModel" "listed" "I")] := by decide +kernel
  rw [e] at hw
  simp only [List.mem_cons, List.not_mem_nil, or_false] at hw
  rcases hw with rfl | rfl | rfl | rfl | rfl | rfl | rfl | rfl | rfl | rfl | rfl | rfl
  · exact tw_488
  · exact tw_490
  · exact tw_492
  · exact tw_494
  · exact tw_496
  · exact tw_498
  · exact tw_500
  · exact tw_502
  · exact tw_504
  · exact tw_506
  · exact tw_508
  · exact tw_510
/-- a virtual call's words, out of ZW -/
theorem gV {w0 : Cond} {own C : String} {i n : Nat} {y : MethodName} {b : ByteArray} {r : Option FieldType} (h1 : Cond.methodLink own i y ∈ ZW) (h2 : Cond.instanceMethod y ∈ ZW) (h3 : Cond.selects C y y ∈ ZW) (h4 : Cond.initialized C ∈ ZW) (h5 : Cond.code y b n r ∈ ZW) (hc : y.cls = C) : GoodIn (w0 :: ZW) (wsV own i C y (Cond.code y b n r :: ZW)) := by
  have g : ∀ w ∈ ZW, w ∈ w0 :: ZW ∧ ((w.onTables && w.keeps) = true ∨ ∃ ty, w = .arrayClass ty) := fun w h => ⟨List.mem_cons_of_mem _ h, good_of_word (List.mem_filter.mp h).2⟩
  intro w hw
  simp only [wsV, List.mem_append, List.mem_cons, List.not_mem_nil, or_false] at hw
  rcases hw with (rfl | rfl | rfl | rfl) | rfl | hw
  · exact g _ h1
  · exact g _ h2
  · exact g _ h3
  · exact g _ h4
  · exact g _ h5
  · exact g _ hw
theorem gS {w0 : Cond} {own : String} {i n : Nat} {y : MethodName} {b : ByteArray} {r : Option FieldType} (h1 : Cond.methodLink own i y ∈ ZW) (h2 : Cond.static y ∈ ZW) (h4 : Cond.initialized y.cls ∈ ZW) (h5 : Cond.code y b n r ∈ ZW) : GoodIn (w0 :: ZW) (va_wsS own i y (Cond.code y b n r :: ZW)) := by
  have g : ∀ w ∈ ZW, w ∈ w0 :: ZW ∧ ((w.onTables && w.keeps) = true ∨ ∃ ty, w = .arrayClass ty) := fun w h => ⟨List.mem_cons_of_mem _ h, good_of_word (List.mem_filter.mp h).2⟩
  intro w hw
  simp only [va_wsS, List.mem_append, List.mem_cons, List.not_mem_nil, or_false] at hw
  rcases hw with (rfl | rfl | rfl) | rfl | hw
  · exact g _ h1
  · exact g _ h2
  · exact g _ h4
  · exact g _ h5
  · exact g _ hw
theorem gI {w0 : Cond} {n : Nat} {y : MethodName} {b : ByteArray} {r : Option FieldType} (h5 : Cond.code y b n r ∈ ZW) : GoodIn (w0 :: ZW) (Cond.code y b n r :: ZW) := by
  intro w hw
  have g : ∀ w ∈ ZW, w ∈ w0 :: ZW ∧ ((w.onTables && w.keeps) = true ∨ ∃ ty, w = .arrayClass ty) := fun w h => ⟨List.mem_cons_of_mem _ h, good_of_word (List.mem_filter.mp h).2⟩
  rcases List.mem_cons.mp hw with rfl | hw
  · exact g _ h5
  · exact g _ hw
