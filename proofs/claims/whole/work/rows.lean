section
-- ===== PART A: goes FIRST, ahead of the names: the tables' words, and 'selects' of the private methods out of them =====
/-- a private method of a class that the tables say can be made, by its rows of tables_1 -/
def lw_okq (q : MethodName × Nat) : Prop := (q.1.cls ≠ "java/lang/invoke/MethodHandle" ∧ q.1.cls ≠ "java/lang/invoke/VarHandle") ∧ Cond.instantiable q.1.cls q.2 ∈ tables_1 ∧ Cond.privateMethod q.1 ∈ tables_1 ∧ Cond.instanceMethod q.1 ∈ tables_1
theorem lw_p0 : lw_okq (⟨"PuddingstoneLine", "setAt", "(I)LPuddingstoneLine$GrainSet;"⟩, 6) := ⟨⟨by decide +kernel, by decide +kernel⟩, List.mem_of_getElem? (i := 14) (by decide +kernel), List.mem_of_getElem? (i := 86) (by decide +kernel), List.mem_of_getElem? (i := 87) (by decide +kernel)⟩
theorem lw_p1 : lw_okq (⟨"PuddingstoneLine", "setOrNull", "(I)LPuddingstoneLine$GrainSet;"⟩, 6) := ⟨⟨by decide +kernel, by decide +kernel⟩, List.mem_of_getElem? (i := 14) (by decide +kernel), List.mem_of_getElem? (i := 90) (by decide +kernel), List.mem_of_getElem? (i := 91) (by decide +kernel)⟩
theorem lw_p2 : lw_okq (⟨"java/lang/Throwable", "fillInStackTrace", "(I)Ljava/lang/Throwable;"⟩, 6) := ⟨⟨by decide +kernel, by decide +kernel⟩, List.mem_of_getElem? (i := 131) (by decide +kernel), List.mem_of_getElem? (i := 129) (by decide +kernel), List.mem_of_getElem? (i := 130) (by decide +kernel)⟩
theorem lw_p3 : lw_okq (⟨"PuddingstoneLine", "digestOfSet", "(JLPuddingstoneLine$GrainSet;)J"⟩, 6) := ⟨⟨by decide +kernel, by decide +kernel⟩, List.mem_of_getElem? (i := 14) (by decide +kernel), List.mem_of_getElem? (i := 161) (by decide +kernel), List.mem_of_getElem? (i := 162) (by decide +kernel)⟩
theorem lw_p4 : lw_okq (⟨"PuddingstoneLine", "factOfSet", "(LPuddingstoneLine$GrainSet;I)I"⟩, 6) := ⟨⟨by decide +kernel, by decide +kernel⟩, List.mem_of_getElem? (i := 14) (by decide +kernel), List.mem_of_getElem? (i := 166) (by decide +kernel), List.mem_of_getElem? (i := 167) (by decide +kernel)⟩
theorem lw_p5 : lw_okq (⟨"PuddingstoneLine$SpanRow", "begin", "(I)V"⟩, 3) := ⟨⟨by decide +kernel, by decide +kernel⟩, List.mem_of_getElem? (i := 46) (by decide +kernel), List.mem_of_getElem? (i := 183) (by decide +kernel), List.mem_of_getElem? (i := 184) (by decide +kernel)⟩
theorem lw_p6 : lw_okq (⟨"PuddingstoneLine$SpanRow", "extend", "(I)V"⟩, 3) := ⟨⟨by decide +kernel, by decide +kernel⟩, List.mem_of_getElem? (i := 46) (by decide +kernel), List.mem_of_getElem? (i := 187) (by decide +kernel), List.mem_of_getElem? (i := 188) (by decide +kernel)⟩
theorem lw_p7 : lw_okq (⟨"PuddingstoneLine", "functionAt", "(I)LPuddingstoneLine$StepFunction;"⟩, 6) := ⟨⟨by decide +kernel, by decide +kernel⟩, List.mem_of_getElem? (i := 14) (by decide +kernel), List.mem_of_getElem? (i := 228) (by decide +kernel), List.mem_of_getElem? (i := 229) (by decide +kernel)⟩
theorem lw_p8 : lw_okq (⟨"PuddingstoneLine", "countThicker", "(II)I"⟩, 6) := ⟨⟨by decide +kernel, by decide +kernel⟩, List.mem_of_getElem? (i := 14) (by decide +kernel), List.mem_of_getElem? (i := 269) (by decide +kernel), List.mem_of_getElem? (i := 270) (by decide +kernel)⟩
theorem lw_p9 : lw_okq (⟨"PuddingstoneLine", "thickness", "(II)I"⟩, 6) := ⟨⟨by decide +kernel, by decide +kernel⟩, List.mem_of_getElem? (i := 14) (by decide +kernel), List.mem_of_getElem? (i := 273) (by decide +kernel), List.mem_of_getElem? (i := 274) (by decide +kernel)⟩
theorem lw_p10 : lw_okq (⟨"PuddingstoneLine", "memberOrNull", "(II)LPuddingstoneLine$GrainSet;"⟩, 6) := ⟨⟨by decide +kernel, by decide +kernel⟩, List.mem_of_getElem? (i := 14) (by decide +kernel), List.mem_of_getElem? (i := 277) (by decide +kernel), List.mem_of_getElem? (i := 278) (by decide +kernel)⟩
theorem lw_p11 : lw_okq (⟨"PuddingstoneLine", "countPins", "(I)I"⟩, 6) := ⟨⟨by decide +kernel, by decide +kernel⟩, List.mem_of_getElem? (i := 14) (by decide +kernel), List.mem_of_getElem? (i := 282) (by decide +kernel), List.mem_of_getElem? (i := 283) (by decide +kernel)⟩
theorem lw_p12 : lw_okq (⟨"PuddingstoneLine", "endsUnpinned", "(III)Z"⟩, 6) := ⟨⟨by decide +kernel, by decide +kernel⟩, List.mem_of_getElem? (i := 14) (by decide +kernel), List.mem_of_getElem? (i := 286) (by decide +kernel), List.mem_of_getElem? (i := 287) (by decide +kernel)⟩
theorem lw_p13 : lw_okq (⟨"PuddingstoneLine", "takeCover", "(ILPuddingstoneLine$GrainSet;)I"⟩, 6) := ⟨⟨by decide +kernel, by decide +kernel⟩, List.mem_of_getElem? (i := 14) (by decide +kernel), List.mem_of_getElem? (i := 294) (by decide +kernel), List.mem_of_getElem? (i := 295) (by decide +kernel)⟩
theorem lw_p14 : lw_okq (⟨"PuddingstoneLine", "farthestFrom", "(II)I"⟩, 6) := ⟨⟨by decide +kernel, by decide +kernel⟩, List.mem_of_getElem? (i := 14) (by decide +kernel), List.mem_of_getElem? (i := 298) (by decide +kernel), List.mem_of_getElem? (i := 299) (by decide +kernel)⟩
theorem lw_p15 : lw_okq (⟨"PuddingstoneLine", "changeSet", "(LPuddingstoneLine$GrainSet;I)V"⟩, 6) := ⟨⟨by decide +kernel, by decide +kernel⟩, List.mem_of_getElem? (i := 14) (by decide +kernel), List.mem_of_getElem? (i := 371) (by decide +kernel), List.mem_of_getElem? (i := 372) (by decide +kernel)⟩
def lw_privs_1 : List (MethodName × Nat) := [(⟨"PuddingstoneLine", "setAt", "(I)LPuddingstoneLine$GrainSet;"⟩, 6), (⟨"PuddingstoneLine", "setOrNull", "(I)LPuddingstoneLine$GrainSet;"⟩, 6), (⟨"java/lang/Throwable", "fillInStackTrace", "(I)Ljava/lang/Throwable;"⟩, 6), (⟨"PuddingstoneLine", "digestOfSet", "(JLPuddingstoneLine$GrainSet;)J"⟩, 6), (⟨"PuddingstoneLine", "factOfSet", "(LPuddingstoneLine$GrainSet;I)I"⟩, 6), (⟨"PuddingstoneLine$SpanRow", "begin", "(I)V"⟩, 3), (⟨"PuddingstoneLine$SpanRow", "extend", "(I)V"⟩, 3), (⟨"PuddingstoneLine", "functionAt", "(I)LPuddingstoneLine$StepFunction;"⟩, 6), (⟨"PuddingstoneLine", "countThicker", "(II)I"⟩, 6), (⟨"PuddingstoneLine", "thickness", "(II)I"⟩, 6), (⟨"PuddingstoneLine", "memberOrNull", "(II)LPuddingstoneLine$GrainSet;"⟩, 6), (⟨"PuddingstoneLine", "countPins", "(I)I"⟩, 6), (⟨"PuddingstoneLine", "endsUnpinned", "(III)Z"⟩, 6), (⟨"PuddingstoneLine", "takeCover", "(ILPuddingstoneLine$GrainSet;)I"⟩, 6), (⟨"PuddingstoneLine", "farthestFrom", "(II)I"⟩, 6), (⟨"PuddingstoneLine", "changeSet", "(LPuddingstoneLine$GrainSet;I)V"⟩, 6)]
theorem lw_r1 : ∀ q ∈ lw_privs_1, lw_okq q := List.forall_mem_cons.mpr ⟨lw_p0, List.forall_mem_cons.mpr ⟨lw_p1, List.forall_mem_cons.mpr ⟨lw_p2, List.forall_mem_cons.mpr ⟨lw_p3, List.forall_mem_cons.mpr ⟨lw_p4, List.forall_mem_cons.mpr ⟨lw_p5, List.forall_mem_cons.mpr ⟨lw_p6, List.forall_mem_cons.mpr ⟨lw_p7, List.forall_mem_cons.mpr ⟨lw_p8, List.forall_mem_cons.mpr ⟨lw_p9, List.forall_mem_cons.mpr ⟨lw_p10, List.forall_mem_cons.mpr ⟨lw_p11, List.forall_mem_cons.mpr ⟨lw_p12, List.forall_mem_cons.mpr ⟨lw_p13, List.forall_mem_cons.mpr ⟨lw_p14, List.forall_mem_cons.mpr ⟨lw_p15, fun _ h => absurd h List.not_mem_nil⟩⟩⟩⟩⟩⟩⟩⟩⟩⟩⟩⟩⟩⟩⟩⟩
theorem lw_p16 : lw_okq (⟨"PuddingstoneLine", "keepLongest", "(LPuddingstoneLine$GrainSet;)V"⟩, 6) := ⟨⟨by decide +kernel, by decide +kernel⟩, List.mem_of_getElem? (i := 14) (by decide +kernel), List.mem_of_getElem? (i := 395) (by decide +kernel), List.mem_of_getElem? (i := 396) (by decide +kernel)⟩
theorem lw_p17 : lw_okq (⟨"PuddingstoneLine", "fillGaps", "(LPuddingstoneLine$GrainSet;)V"⟩, 6) := ⟨⟨by decide +kernel, by decide +kernel⟩, List.mem_of_getElem? (i := 14) (by decide +kernel), List.mem_of_getElem? (i := 401) (by decide +kernel), List.mem_of_getElem? (i := 402) (by decide +kernel)⟩
theorem lw_p18 : lw_okq (⟨"PuddingstoneLine", "turnFunction", "(LPuddingstoneLine$StepFunction;II)V"⟩, 6) := ⟨⟨by decide +kernel, by decide +kernel⟩, List.mem_of_getElem? (i := 14) (by decide +kernel), List.mem_of_getElem? (i := 519) (by decide +kernel), List.mem_of_getElem? (i := 520) (by decide +kernel)⟩
theorem lw_p19 : lw_okq (⟨"PuddingstoneLineModel", "no", "(I)I"⟩, 3) := ⟨⟨by decide +kernel, by decide +kernel⟩, List.mem_of_getElem? (i := 676) (by decide +kernel), List.mem_of_getElem? (i := 710) (by decide +kernel), List.mem_of_getElem? (i := 711) (by decide +kernel)⟩
theorem lw_p20 : lw_okq (⟨"PuddingstoneLineModel", "ofNow", "(II)I"⟩, 3) := ⟨⟨by decide +kernel, by decide +kernel⟩, List.mem_of_getElem? (i := 676) (by decide +kernel), List.mem_of_getElem? (i := 765) (by decide +kernel), List.mem_of_getElem? (i := 766) (by decide +kernel)⟩
theorem lw_p21 : lw_okq (⟨"PuddingstoneLineModel", "thickness", "(II)I"⟩, 3) := ⟨⟨by decide +kernel, by decide +kernel⟩, List.mem_of_getElem? (i := 676) (by decide +kernel), List.mem_of_getElem? (i := 845) (by decide +kernel), List.mem_of_getElem? (i := 846) (by decide +kernel)⟩
theorem lw_p22 : lw_okq (⟨"PuddingstoneLineModel", "functionNow", "(II)I"⟩, 3) := ⟨⟨by decide +kernel, by decide +kernel⟩, List.mem_of_getElem? (i := 676) (by decide +kernel), List.mem_of_getElem? (i := 857) (by decide +kernel), List.mem_of_getElem? (i := 858) (by decide +kernel)⟩
theorem lw_p23 : lw_okq (⟨"PuddingstoneLineModel", "areaNow", "(II)I"⟩, 3) := ⟨⟨by decide +kernel, by decide +kernel⟩, List.mem_of_getElem? (i := 676) (by decide +kernel), List.mem_of_getElem? (i := 872) (by decide +kernel), List.mem_of_getElem? (i := 873) (by decide +kernel)⟩
theorem lw_p24 : lw_okq (⟨"PuddingstoneLineModel", "thickerNow", "(II)I"⟩, 3) := ⟨⟨by decide +kernel, by decide +kernel⟩, List.mem_of_getElem? (i := 676) (by decide +kernel), List.mem_of_getElem? (i := 884) (by decide +kernel), List.mem_of_getElem? (i := 885) (by decide +kernel)⟩
theorem lw_p25 : lw_okq (⟨"PuddingstoneLineModel", "coverNow", "(II)[I"⟩, 3) := ⟨⟨by decide +kernel, by decide +kernel⟩, List.mem_of_getElem? (i := 676) (by decide +kernel), List.mem_of_getElem? (i := 892) (by decide +kernel), List.mem_of_getElem? (i := 893) (by decide +kernel)⟩
theorem lw_p26 : lw_okq (⟨"PuddingstoneLineModel", "pinsNow", "(I)I"⟩, 3) := ⟨⟨by decide +kernel, by decide +kernel⟩, List.mem_of_getElem? (i := 676) (by decide +kernel), List.mem_of_getElem? (i := 910) (by decide +kernel), List.mem_of_getElem? (i := 911) (by decide +kernel)⟩
theorem lw_p27 : lw_okq (⟨"PuddingstoneLineModel", "beginOf", "(II)I"⟩, 3) := ⟨⟨by decide +kernel, by decide +kernel⟩, List.mem_of_getElem? (i := 676) (by decide +kernel), List.mem_of_getElem? (i := 914) (by decide +kernel), List.mem_of_getElem? (i := 915) (by decide +kernel)⟩
theorem lw_p28 : lw_okq (⟨"PuddingstoneLineModel", "isClear", "(III)Z"⟩, 3) := ⟨⟨by decide +kernel, by decide +kernel⟩, List.mem_of_getElem? (i := 676) (by decide +kernel), List.mem_of_getElem? (i := 933) (by decide +kernel), List.mem_of_getElem? (i := 934) (by decide +kernel)⟩
def lw_privs_2 : List (MethodName × Nat) := [(⟨"PuddingstoneLine", "keepLongest", "(LPuddingstoneLine$GrainSet;)V"⟩, 6), (⟨"PuddingstoneLine", "fillGaps", "(LPuddingstoneLine$GrainSet;)V"⟩, 6), (⟨"PuddingstoneLine", "turnFunction", "(LPuddingstoneLine$StepFunction;II)V"⟩, 6), (⟨"PuddingstoneLineModel", "no", "(I)I"⟩, 3), (⟨"PuddingstoneLineModel", "ofNow", "(II)I"⟩, 3), (⟨"PuddingstoneLineModel", "thickness", "(II)I"⟩, 3), (⟨"PuddingstoneLineModel", "functionNow", "(II)I"⟩, 3), (⟨"PuddingstoneLineModel", "areaNow", "(II)I"⟩, 3), (⟨"PuddingstoneLineModel", "thickerNow", "(II)I"⟩, 3), (⟨"PuddingstoneLineModel", "coverNow", "(II)[I"⟩, 3), (⟨"PuddingstoneLineModel", "pinsNow", "(I)I"⟩, 3), (⟨"PuddingstoneLineModel", "beginOf", "(II)I"⟩, 3), (⟨"PuddingstoneLineModel", "isClear", "(III)Z"⟩, 3)]
theorem lw_r2 : ∀ q ∈ lw_privs_2, lw_okq q := List.forall_mem_cons.mpr ⟨lw_p16, List.forall_mem_cons.mpr ⟨lw_p17, List.forall_mem_cons.mpr ⟨lw_p18, List.forall_mem_cons.mpr ⟨lw_p19, List.forall_mem_cons.mpr ⟨lw_p20, List.forall_mem_cons.mpr ⟨lw_p21, List.forall_mem_cons.mpr ⟨lw_p22, List.forall_mem_cons.mpr ⟨lw_p23, List.forall_mem_cons.mpr ⟨lw_p24, List.forall_mem_cons.mpr ⟨lw_p25, List.forall_mem_cons.mpr ⟨lw_p26, List.forall_mem_cons.mpr ⟨lw_p27, List.forall_mem_cons.mpr ⟨lw_p28, fun _ h => absurd h List.not_mem_nil⟩⟩⟩⟩⟩⟩⟩⟩⟩⟩⟩⟩⟩
def lw_privs : List (MethodName × Nat) := lw_privs_1 ++ (lw_privs_2)
def lw_tbl : List Cond := k2_sels lw_privs ++ tables_1
theorem lw_privs_ok : ∀ q ∈ lw_privs, lw_okq q := by
  show ∀ q ∈ lw_privs_1 ++ (lw_privs_2), lw_okq q
  exact List.forall_mem_append.mpr ⟨lw_r1, lw_r2⟩
/-- the streams that the claim lets the run draw from -/
abbrev lw_cs : List Choice := [Jvm.Choice.named "NaN.bits"]
theorem lw_bits : nanBits ∈ lw_cs := by first | decide | exact List.mem_cons_self | simp [lw_cs, nanBits]
-- ===== end of PART A; then your names; then what follows =====
end
section
/-! rows that the printed names call and the kit here lacks: arrays of arrays -/
def va_AOA (ty : FieldType) (U : State) : Prop := (Cond.arrayOver (.array ty)).before #[] U = true
theorem va_AOA.of {ty : FieldType} {A : Array Value} {U : State} (h : (Cond.arrayOver (.array ty)).before A U = true) : va_AOA ty U := h
theorem va_AOA.use {ty : FieldType} {A : Array Value} {U : State} (h : va_AOA ty U) : (Cond.arrayOver (.array ty)).before A U = true := h
theorem va_AOA.moved {ty : FieldType} {u U : State} (hal : u.vm.Alike U.vm) (h : va_AOA ty u) : va_AOA ty U := by
  unfold va_AOA at h ⊢
  simp only [Cond.before, Cond.holds, Cond.value] at h ⊢
  rw [hal.findClass]
  cases hf : u.vm.findClass (FieldType.array ty).toString with
  | none => rw [hf] at h; simp at h
  | some comp =>
    rw [hf] at h
    simp only [Option.bind_some] at h ⊢
    rw [hal.findIdx_congr _ (fun _ _ _ _ => rfl)]
    generalize hF : (u.vm.classes.findIdx? fun (x : Class) => match x.kind with | .array component _ => component == comp | _ => false) = fi at h ⊢
    cases fi with
    | none => simp at h
    | some c =>
      simp only [Option.bind_some] at h ⊢
      cases hk : u.vm.classes[c]? with
      | none => rw [hk] at h; simp at h
      | some k =>
        obtain ⟨k', hk', ek⟩ := hal.2.2 _ _ hk
        rw [hk] at h
        rw [hk', hal.findClass]
        have ekind : k'.kind = k.kind := by rw [ek]
        simp only [Option.map_some] at h ⊢
        rw [ekind]
        exact h
end
section
/-! ===== BEGIN words of one list among another's, by their places ===== -/
theorem goodIn_r {big : List Cond} (ws : List Cond) (ps : List Nat) (hp : ws = ps.filterMap (fun i => big[i]?)) (h : ws.all goodWord = true) : GoodIn big ws := by
  intro w hw
  have h1 := List.all_eq_true.mp h w hw
  rw [hp] at hw
  obtain ⟨i, -, hi⟩ := List.mem_filterMap.mp hw
  have hm : w ∈ big := by first | exact List.mem_of_getElem? hi | exact List.getElem?_mem hi
  exact ⟨hm, good_of_word h1⟩
theorem goodIn_app {big a b : List Cond} (ha : GoodIn big a) (hb : GoodIn big b) : GoodIn big (a ++ b) := fun w h => (List.mem_append.mp h).elim (ha w) (hb w)
theorem goodIn_ca {big a b : List Cond} {c : Cond} (ha : GoodIn big (c :: a)) (hb : GoodIn big b) : GoodIn big (c :: (a ++ b)) := fun w h => (List.mem_cons.mp h).elim (fun e => ha w (List.mem_cons.mpr (Or.inl e))) (fun h => (List.mem_append.mp h).elim (fun h => ha w (List.mem_cons.mpr (Or.inr h))) (hb w))
theorem goodIn_sub {big ws : List Cond} (hm : ∀ w ∈ ws, w ∈ big) (h : ws.all goodWord = true) : GoodIn big ws := fun w hw => ⟨hm w hw, good_of_word (List.all_eq_true.mp h w hw)⟩
/-! ===== END ===== -/

/-! ===== BEGIN new T[n][m]: the outer array a place, the inner ones among the pooled ===== -/
/-- f, but v at every address of l -/
def vr_up {α : Type} (f : Nat → α) (l : List Nat) (v : α) : Nat → α := fun a => if a ∈ l then v else f a
theorem vr_up_in {α : Type} {f : Nat → α} {l : List Nat} {v : α} {a : Nat} (h : a ∈ l) : vr_up f l v a = v := if_pos h
theorem vr_up_ne {α : Type} {f : Nat → α} {l : List Nat} {v : α} {a : Nat} (h : a ∉ l) : vr_up f l v a = f a := if_neg h
theorem vr_rows {L l : List Nat} {f : Nat → va_E} {e : va_E} (h : ∀ a, a ∈ l → a ∉ L) : va_pl L f ++ l.map (fun a => (a, e)) = va_pl (L ++ l) (vr_up f l e) := by
  unfold va_pl
  rw [List.map_append]
  congr 1
  · apply List.map_congr_left
    intro a ha
    rw [vr_up_ne (fun q => h a q ha)]
  · apply List.map_congr_left
    intro a ha
    rw [vr_up_in ha]
theorem vr_lay {X rows : va_W} {x : Nat × va_E} {pl : va_W} {D : va_G} {cl : List vw_C} {H : Heap} (hP : va_P D cl (((X ++ pl) ++ [x]) ++ rows) H) : va_P D cl ((X ++ [x]) ++ (pl ++ rows)) H := by
  rw [List.append_assoc (X ++ pl)] at hP
  have h := va_P.swap hP
  rw [← List.append_assoc X] at h
  have h2 := va_P.swap h
  rw [List.append_assoc (X ++ [x])] at h2
  exact h2
theorem vr_layD {X rows : va_W} {x : Nat × va_E} {pl : va_W} {A : Nat → Prop} (hD : va_D A (((X ++ pl) ++ [x]) ++ rows)) : va_D A ((X ++ [x]) ++ (pl ++ rows)) := by
  rw [List.append_assoc (X ++ pl)] at hD
  have h := va_D.swap hD
  rw [← List.append_assoc X] at h
  have h2 := va_D.swap h
  rw [List.append_assoc (X ++ [x])] at h2
  exact h2
theorem vr_outer (c : ClassId) (N h0 : Nat) : ∀ i : Nat, Jvm.Free.Multi.outerC c N h0 i = arrV c N (fun j => va_rf (if j < i then some (h0 + 1 + j) else none))
  | 0 => by
    show ({ cls := c, slots := Array.replicate N .null, vm := .none } : Cell) = _
    rw [arrV_new]
    refine congrArg (arrV c N) (funext fun j => ?_)
    simp [va_rf]
  | i + 1 => by
    show (Jvm.Free.Multi.outerC c N h0 i).setSlot i (.ref (h0 + 1 + i)) = _
    rw [vr_outer c N h0 i, arrV_store]
    refine congrArg (arrV c N) (funext fun j => ?_)
    by_cases e : j = i
    · subst e
      simp [updV, va_rf]
    · by_cases h : j < i
      · simp [updV, e, h, Nat.lt_succ_of_lt h]
      · simp [updV, e, h, show ¬ j < i + 1 by omega]
section VGM
variable {p : Program} {l : Launch} {e : Env} {R : Room} {s : State} {m : MethodId} {args : Array Value} {below : List Frame} {meth : Method} {c : Code} {H : Heap} {locs : List Loc} {cells slots : Nat} {Q : State → Prop}
variable {cc : ByteArray} {pc : Nat} {ls : Array Slot} {rest : List Value} {D : va_G} {cl : List vw_C} {A : Nat → Prop} {a : Nat} {tys : List (ClassId × FieldType)} {ws : va_W} {H0 : Heap}
theorem va_mna {X : va_W} {L : List Nat} {f : Nat → va_E} {cc : ByteArray} (hexec : p.tables.exec = Jvm.exec) (hb : c.code = cc) {own : String} {index : Nat} {ty : FieldType} {cy : ClassId} (hown : s.vm.findClass own = some m.cls) (hclink : (Cond.classLink own index ("[" ++ (FieldType.array ty).toString)).before args s = true) (hover : va_AOA ty s) (harr : (Cond.arrayClass ty).before args s = true) (hcy : s.vm.findClass (FieldType.array ty).toString = some cy)
    (hK : va_K D cl tys s) (hP : va_P D cl (X ++ va_pl L f) H) (hD : va_D A (X ++ va_pl L f)) (hS : va_S A H0 H locs) (hA : ∀ q, H0.size ≤ q → A q) {n k : Int32} {N' K' : Nat} {z : vp_A} (hn : ¬ n < 0) (hk : ¬ k < 0) (hN : n.toNatClampNeg = N') (hM : k.toNatClampNeg = K')
    (hb1 : N' * 4 ≤ 536870912) (hb2 : K' * componentBytes ty ≤ 536870912) (hb3 : K' ≤ 536870912) (hdf : fits ty (defaultValue ty) = true) (hdd : (defaultValue ty).isDefault = true) (hcells : cells + (1 + N') ≤ R.cells) (hslots : slots + (N' + N' * K') ≤ R.slots) (hz : ∀ c : ClassId, Jvm.Free.Multi.innerC c K' (defaultValue ty) = vp_cell c z) (hdg : decode cc pc = .ok (.multianewarray index 2, 4))
    (kk : ∀ (q : Nat) (r : Nat → Nat) (cA : ClassId) (H1 : Heap), (∀ i j : Nat, i < N' → j < N' → r i = r j → i = j) → (∀ i : Nat, i < N' → r i ∉ L) → va_K D cl (tys ++ [(cA, .array ty)]) s →
      va_P D cl ((X ++ [(q, .inl (cA, N', .inr (.inr (.inr (.inr (fun i => if i < N' then some (r i) else none))))))]) ++ va_pl (L ++ (List.range N').map r) (vr_up f ((List.range N').map r) (.inl (cy, z)))) H1 → va_D A ((X ++ [(q, .inl (cA, N', .inr (.inr (.inr (.inr (fun i => if i < N' then some (r i) else none))))))]) ++ va_pl (L ++ (List.range N').map r) (vr_up f ((List.range N').map r) (.inl (cy, z)))) → va_S A H0 H1 locs →
      W p l e R s m args below meth c H1 locs (cells + 1 + N') (slots + N' + N' * K') Q (F0 m (pc + 4) ls (.ref q :: rest))) : W p l e R s m args below meth c H locs cells slots Q (F0 m pc ls (.int k :: .int n :: rest)) := by
  subst hN
  subst hM
  intro T hT Xs
  obtain ⟨vm₁, cA, comp, -, fA, fC, hO, -, X', step⟩ := Xs.multianewarray2F hexec hown hclink (va_AOA.use hover) harr (g := F0 m pc ls (.int k :: .int n :: rest)) rfl (by rw [hb]; exact hdg) rfl hn hk hb1 hb2 hb3 hdf hdd hcells hslots
  have ec : some cy = some comp := hcy.symm.trans fC
  cases ec
  generalize hF : Jvm.Free.Multi.fill (T.setVm vm₁) cA cy n.toNatClampNeg k.toNatClampNeg (defaultValue ty) n.toNatClampNeg = F at X' step
  have hTh : (T.setVm vm₁).heap = H := hT
  obtain ⟨f1, f2, -, -⟩ := Jvm.Free.Multi.fill_facts (T.setVm vm₁) cA cy n.toNatClampNeg k.toNatClampNeg (defaultValue ty) n.toNatClampNeg
  rw [hF, hTh] at f1 f2
  have hold : ∀ x : Nat, x < H.size → F.heap[x]? = H[x]? := fun x hx => by
    have := Jvm.Free.Multi.fill_old (T.setVm vm₁) cA cy n.toNatClampNeg k.toNatClampNeg (defaultValue ty) (a := x) (by rw [hTh]; exact hx) n.toNatClampNeg
    rw [hF, hTh] at this
    exact this
  have hrow : ∀ j : Nat, j < n.toNatClampNeg → F.heap[H.size + 1 + j]? = some (vp_cell cy z) := fun j hj => by
    have := Jvm.Free.Multi.fill_inner (T.setVm vm₁) cA cy n.toNatClampNeg k.toNatClampNeg (defaultValue ty) n.toNatClampNeg j hj
    rw [hF, hTh, hz] at this
    exact this
  have hout : Jvm.Free.Multi.outerC cA n.toNatClampNeg H.size n.toNatClampNeg = vp_cell cA (n.toNatClampNeg, .inr (.inr (.inr (.inr (fun i => if i < n.toNatClampNeg then some (H.size + 1 + i) else none))))) := by
    rw [vp_cell_q]
    exact vr_outer cA n.toNatClampNeg H.size n.toNatClampNeg
  rw [hout] at f2
  have hlt : ∀ a, a ∈ L → a < H.size := fun a ha => by
    obtain ⟨k9, hk9⟩ := va_pl_get (X := X) (f := f) ha
    exact (hP k9 _ hk9).lt
  have hnl : ∀ i : Nat, i < n.toNatClampNeg → H.size + 1 + i ∉ L := fun i _ h => by
    have := hlt _ h
    omega
  have hnm : ∀ a, a ∈ (List.range n.toNatClampNeg).map (fun i => H.size + 1 + i) → a ∉ L := fun a ha h => by
    obtain ⟨i, -, rfl⟩ := List.mem_map.mp ha
    have := hlt _ h
    omega
  have hP0 : va_P D cl (X ++ va_pl L f) F.heap := hP.kept (fun k9 x hx => hold x.1 ((hP k9 x hx).lt))
  have hP1 : va_P D cl ((X ++ va_pl L f) ++ [(H.size, .inl (cA, n.toNatClampNeg, .inr (.inr (.inr (.inr (fun i => if i < n.toNatClampNeg then some (H.size + 1 + i) else none))))))]) F.heap := hP0.app (fun k9 x hx => by
    have h0 : k9 < 1 := (List.getElem?_eq_some_iff.mp hx).1
    rw [show k9 = 0 by omega] at hx
    cases hx
    exact f2)
  have hP2 : va_P D cl (((X ++ va_pl L f) ++ [(H.size, .inl (cA, n.toNatClampNeg, .inr (.inr (.inr (.inr (fun i => if i < n.toNatClampNeg then some (H.size + 1 + i) else none))))))]) ++ ((List.range n.toNatClampNeg).map (fun i => H.size + 1 + i)).map (fun a => (a, .inl (cy, z)))) F.heap := hP1.app (fun k9 x hx => by
    obtain ⟨a, ha, rfl⟩ := List.mem_map.mp (List.mem_of_getElem? hx)
    obtain ⟨i, hi, rfl⟩ := List.mem_map.mp ha
    exact hrow i (List.mem_range.mp hi))
  have hD2 : va_D A (((X ++ va_pl L f) ++ [(H.size, .inl (cA, n.toNatClampNeg, .inr (.inr (.inr (.inr (fun i => if i < n.toNatClampNeg then some (H.size + 1 + i) else none))))))]) ++ ((List.range n.toNatClampNeg).map (fun i => H.size + 1 + i)).map (fun a => (a, .inl (cy, z)))) := by
    have hD1 := hD.push (e := .inl (cA, n.toNatClampNeg, .inr (.inr (.inr (.inr (fun i => if i < n.toNatClampNeg then some (H.size + 1 + i) else none)))))) hP rfl (hA _ hS.1)
    generalize hW1 : (X ++ va_pl L f) ++ [(H.size, .inl (cA, n.toNatClampNeg, .inr (.inr (.inr (.inr (fun i => if i < n.toNatClampNeg then some (H.size + 1 + i) else none))))))] = W1 at hD1 hP1 ⊢
    have hle : ∀ (k9 : Nat) (x : Nat × va_E), W1[k9]? = some x → x.1 ≤ H.size := fun k9 x hx => by
      rw [← hW1] at hx
      by_cases hl : k9 < (X ++ va_pl L f).length
      · rw [List.getElem?_append_left hl] at hx
        exact Nat.le_of_lt ((hP k9 x hx).lt)
      · rw [List.getElem?_append_right (by omega)] at hx
        have h0 : k9 - (X ++ va_pl L f).length < 1 := (List.getElem?_eq_some_iff.mp hx).1
        rw [show k9 - (X ++ va_pl L f).length = 0 by omega] at hx
        cases hx
        exact Nat.le_refl _
    have hr : ∀ (k9 : Nat) (x : Nat × va_E), (((List.range n.toNatClampNeg).map (fun i => H.size + 1 + i)).map (fun a => ((a, .inl (cy, z)) : Nat × va_E)))[k9]? = some x → x.1 = H.size + 1 + k9 := fun k9 x hx => by
      rw [List.getElem?_map, List.getElem?_map] at hx
      by_cases h9 : k9 < n.toNatClampNeg
      · rw [List.getElem?_range h9] at hx
        cases hx
        rfl
      · have hn0 : (List.range n.toNatClampNeg)[k9]? = none := List.getElem?_eq_none (by rw [List.length_range]; omega)
        rw [hn0] at hx
        cases hx
    refine ⟨fun i j x y hi hj hxy => ?_, fun k9 x hx => ?_⟩
    · by_cases h1 : i < W1.length <;> by_cases h2 : j < W1.length
      · rw [List.getElem?_append_left h1] at hi
        rw [List.getElem?_append_left h2] at hj
        exact hD1.1 i j x y hi hj hxy
      · rw [List.getElem?_append_left h1] at hi
        rw [List.getElem?_append_right (by omega)] at hj
        have := hle _ _ hi
        have := hr _ _ hj
        omega
      · rw [List.getElem?_append_right (by omega)] at hi
        rw [List.getElem?_append_left h2] at hj
        have := hle _ _ hj
        have := hr _ _ hi
        omega
      · rw [List.getElem?_append_right (by omega)] at hi hj
        have := hr _ _ hi
        have := hr _ _ hj
        omega
    · by_cases h1 : k9 < W1.length
      · rw [List.getElem?_append_left h1] at hx
        exact hD1.2 k9 x hx
      · rw [List.getElem?_append_right (by omega)] at hx
        have := hr _ _ hx
        exact hA _ (by have := hS.1; omega)
  have hAr : ArrOfT s cA (.array ty) := fun N9 z9 => by
    obtain ⟨-, k9, hk9, cm9, hkk9⟩ := (hO 0 0 0).1
    exact ⟨(fun q hq => by cases hq), k9, hk9, cm9, hkk9⟩
  have hK2 : va_K D cl (tys ++ [(cA, .array ty)]) s := ⟨hK.1, fun k9 x hx => by
    by_cases hl : k9 < tys.length
    · rw [List.getElem?_append_left hl] at hx
      exact hK.2 k9 x hx
    · rw [List.getElem?_append_right (by omega)] at hx
      have h0 : k9 - tys.length < 1 := (List.getElem?_eq_some_iff.mp hx).1
      rw [show k9 - tys.length = 0 by omega] at hx
      cases hx
      exact ⟨hAr, fA⟩⟩
  obtain ⟨t, a1, b1⟩ := kk H.size (fun i => H.size + 1 + i) cA F.heap (fun i j _ _ h => by have h9 : H.size + 1 + i = H.size + 1 + j := h; omega) hnl hK2 (by rw [← vr_rows hnm]; exact vr_lay hP2) (by rw [← vr_rows hnm]; exact vr_layD hD2) ⟨by rw [f1]; have := hS.1; omega, fun x h1 h2 => (hold x (Nat.lt_of_lt_of_le h1 hS.1)).trans (hS.2.1 x h1 h2), hS.2.2⟩ F rfl X'
  refine ⟨t, step t ?_, b1⟩
  have e : T.heap.size = H.size := by rw [hT]
  rw [e]
  exact a1
end VGM
/-! ===== END ===== -/

/-! ===== BEGIN exceptions that leave a method, and their catching by the caller (launches without stack traces) ===== -/
section VXA
/-! The laws vx_back, vx_callV, vx_callS, vx_callSW, vx_throw0, vx_throwS follow proofs of the library, with one case more: JvmDerived/Free/Laws.lean (Back.of_free), Shelf42/LK1.lean (callV, callS), Shelf/KitTraced.lean (throwNew0V, throwNewS). -/
/-- where a method has thrown q: the class by its name, the cell, what was written, the world -/
def vx_T (XC : String → State → State → Prop) (st : State) (q : Addr) (t : State) (mc ms : Nat) (free : Addr → Prop) : Prop :=
  ∃ (E : String) (ce : Cell) (L : List Loc), XC E st t ∧ t.heap[q]? = some ce ∧ ce.vm = .none ∧ st.vm.findClass E = some ce.cls ∧ st.WarmedH t.vm ∧ st.sameButNew ({ t with vm := st.vm } : State) L mc ms ∧ ∀ z ∈ L, free z.base
def vx_Q (Qc : Array Value → State → Outcome → State → Prop) (XC : String → State → State → Prop) (mc ms : Nat) (free : Addr → Prop) : Array Value → State → Outcome → State → Prop := fun a st o t =>
  (Qc a st o t ∧ ∃ L, FrameEnd st o t L mc ms ∧ ∀ q ∈ L, free q.base) ∨ ∃ q, o = .threw q ∧ vx_T XC st q t mc ms free
/-- a callee that returns or throws -/
def vx_Met (l : Launch) (y : MethodName) (ws : List Cond) (rm : Room) (Pc : Array Value → State → Prop) (Qc : Array Value → State → Outcome → State → Prop) (XC : String → State → State → Prop) (mc ms : Nat) (free : Addr → Prop) : Prop :=
  MetFree l y (headSpec ws rm) Pc (fun _ _ _ _ _ => True) (vx_Q Qc XC mc ms free)
def vx_Post (XC : String → State → State → Prop) (mc ms : Nat) (free : Addr → Prop) : Pt → Array Value → Addr → Pt → Prop := fun A a q B =>
  ∃ (g : JFrame) (mk : MethodId) (t : State) (L : List Loc) (E : String) (ce : Cell), B.U.heap = t.heap ∧ B.U.vm = t.vm ∧ XC E (A.U.calling g mk a) t ∧ t.heap[q]? = some ce ∧ ce.vm = .none ∧ A.U.vm.findClass E = some ce.cls ∧ B.locs = A.locs ++ L ∧ (∀ z ∈ L, free z.base) ∧ B.cells = A.cells + mc ∧ B.slots = A.slots + ms
def vx_Back (l : Launch) (R : Room) (p : Program) (e : Env) (below : List Frame) (s : State) (sargs : Array Value) (y : MethodName) (len W9 : Nat)
    (Pre : Pt → Array Value → Prop) (Post : Pt → Array Value → Option Value → Pt → Prop) (PostX : Pt → Array Value → Addr → Pt → Prop) : Prop :=
  ∀ (m : MethodId) (meth : Method) (c : Code) (A : Pt) (g : JFrame) (ig : Instr) (mk : MethodId) (a : Array Value),
    Stand p l e R s m sargs below meth c A.U A.locs A.cells A.slots → g.method = m → g.locals.size = c.maxLocals → decode c.code g.pc = .ok (ig, len) →
    2 * g.monitorRoom + (g.stack.map fun v => v.category).sum ≤ W9 → A.U.methodNamed? y = some mk → Pre A a →
    (∃ (v : Option Value) (B : Pt), Stand p l e R s m sargs below meth c B.U B.locs B.cells B.slots ∧ Post A a v B ∧
      Steps p.tables e below (doInvoke e (A.U.setTop g) [] mk a).1 (B.U.setTop { g with pc := g.pc + len, stack := v.toList ++ g.stack })) ∨
    (∃ (q : Addr) (B : Pt), Stand p l e R s m sargs below meth c B.U B.locs B.cells B.slots ∧ PostX A a q B ∧
      Steps p.tables e below (doInvoke e (A.U.setTop g) [] mk a).1 ((B.U.setTop g).pushFrame (.throwing q)))
section Payer
variable {l : Launch} {R : Room} {p : Program} {e : Env} {below : List Frame} {s : State} {sargs : Array Value} {y : MethodName} {len W9 : Nat}
theorem vx_back {ws : List Cond} {rm : Room} {Pc : Array Value → State → Prop} {Qc : Array Value → State → Outcome → State → Prop} {XC : String → State → State → Prop} {mc ms : Nat} {free : Addr → Prop} {bytes : ByteArray} {maxL : Nat} {ret : Option FieldType}
    (hM : vx_Met l y ws rm Pc Qc XC mc ms free) (hblind : FrameBlind Pc) (hrc : rm.cells = mc) (hrs : rm.slots = ms)
    (hframes : rm.frames + 1 ≤ R.frames) (hlocals : W9 + (maxL + 11) + rm.locals ≤ R.locals)
    (hws : ∀ w ∈ ws, ∀ a' U, s.WarmedH U.vm → w.before a' U = true) (hcode : Cond.code y bytes maxL ret ∈ ws) (hinit : ∀ a' U, s.WarmedH U.vm → (Cond.initialized y.cls).before a' U = true) :
    vx_Back l R p e below s sargs y len W9 (PreOf R mc ms Pc) (PostOf Qc mc ms free) (vx_Post XC mc ms free) := by
  intro m meth c A g ig mk a X hg hsize hdg hW hn hp
  have h1 : (headSpec ws rm).pre.before a A.U = true := atoms_intro fun w hw => hws w hw _ _ X.warmed
  have h2 : (Cond.code y bytes maxL ret).before a A.U = true := hws _ hcode _ _ X.warmed
  have h3 : (Cond.initialized y.cls).before a A.U = true := hinit _ _ X.warmed
  have h4 : A.cells + (headSpec ws rm).room.cells ≤ R.cells := by rw [show (headSpec ws rm).room.cells = mc from hrc]; exact hp.1
  have h5 : A.slots + (headSpec ws rm).room.slots ≤ R.slots := by rw [show (headSpec ws rm).room.slots = ms from hrs]; exact hp.2.1
  have hPc : Pc a (A.U.calling g mk a) := hblind _ _ _ _ hp.2.2
  obtain ⟨U, Ls, c0, s0⟩ := A
  dsimp only [Pt.U, Pt.locs, Pt.cells, Pt.slots] at h1 h2 h3 h4 h5 X hn hPc ⊢
  obtain ⟨methY, cY, hmY, hcY, -, hlY, -, -, -, -⟩ := Cond.code_spec hn h2
  obtain ⟨kY, hkY, -⟩ := className_of_methodNamed hn
  have hinitY : kY.init = .initialized := Cond.initialized_spec (findClass_of_methodNamed hn) hkY h3
  have h : At U g.method c below := by rw [hg]; exact X.here
  have hlocals9 : W9 + (maxL + 11) + (headSpec ws rm).room.locals ≤ R.locals := hlocals
  have happ : (headSpec ws rm).appliesLoose y e.platform (U.calling g mk a) = true :=
    Spec.appliesLoose_calling (g := g) h hdg hn hkY hinitY
      (X.room_calling (g := g) (R' := (headSpec ws rm).room) hsize hmY hcY hframes (by rw [hlY]; omega) h4 h5) h1
  obtain ⟨mid, hmid⟩ := h.above
  have hfr : (U.setTop g).frames = (.java g :: mid) ++ below := by rw [State.frames_setTop' g h.top, hmid]; rfl
  obtain ⟨o, s₂, hsteps, -, hend, hq⟩ := Steps.callFree hM p X.admits X.cas X.clock (acts := []) hfr happ hPc trivial
  have hq' : vx_Q Qc XC mc ms free a (U.calling g mk a) o s₂ := hq
  rw [State.frames_setTop' g h.top] at hend
  obtain ⟨g₀, hg0⟩ := Option.isSome_iff_exists.mp h.top
  obtain ⟨r, hr⟩ := State.topJava?_eq_some.mp hg0
  have hr' : (({ U with heap := s₂.heap, slotsUsed := s₂.slotsUsed } : State).setVm s₂.vm).frames = .java g₀ :: r := hr
  rcases hq' with ⟨hqc, L, hfe, hL⟩ | ⟨q, rfl, E, ce, L, hx, hce, hcv, hcl, hW₂, hsm, hL⟩
  · obtain ⟨⟨v, rfl⟩, hW₂, e2, q2, q3, q4, q5, q6⟩ := id hfe
    have e3 : s₂ = ({ (U.calling g mk a).setFrames s₂.frames with heap := s₂.heap, slotsUsed := s₂.slotsUsed } : State).setVm s₂.vm := by
      have : s₂ = ({ s₂ with vm := (U.calling g mk a).vm } : State).setVm s₂.vm := rfl
      rw [e2] at this
      exact this
    obtain ⟨c₂, i₂, len₂, hc₂, hd₂, hf₂⟩ := hend
    have hW' : U.WarmedH s₂.vm := hW₂
    have hcc : c₂ = c := by
      have h1 : s₂.code? g.method = U.code? g.method := by
        rw [State.code?_eq, State.code?_eq, hW'.alike.method?]
      exact Option.some.inj (hc₂.symm.trans (h1.trans h.code))
    subst hcc
    have hlen : len₂ = len := by rw [hdg] at hd₂; cases hd₂; rfl
    subst hlen
    have hs₂ : s₂ = (({ U with heap := s₂.heap, slotsUsed := s₂.slotsUsed } : State).setVm s₂.vm).setTop { g with pc := g.pc + len₂, stack := v.toList ++ g.stack } := by
      refine e3.trans ?_
      rw [hf₂, State.calling_eq h.top, State.setFrames_setFrames, State.setTop_of_frames _ hr', hr]
      rfl
    have hsame : U.sameButNew ({ U with heap := s₂.heap, slotsUsed := s₂.slotsUsed } : State) L mc ms := by
      refine ⟨?_, q2, q3, q4, q5, q6⟩
      obtain ⟨t, ht, -⟩ := State.frames_cons hr
      show ({ U with heap := s₂.heap, slotsUsed := s₂.slotsUsed } : State) = { U.setFrames U.frames with heap := s₂.heap, slotsUsed := s₂.slotsUsed }
      rw [State.setFrames_self ht]
    subst hg
    refine Or.inl ⟨v, ⟨(({ U with heap := s₂.heap, slotsUsed := s₂.slotsUsed } : State).setVm s₂.vm), Ls ++ L, c0 + mc, s0 + ms⟩,
      ⟨X.admits, X.cas, X.clock, X.frames, X.room, X.hears, X.method, X.code, (X.here.setHeapUsed s₂.heap s₂.slotsUsed).setVm hW'.alike, X.tail, State.WarmedH.trans X.warmed hW', X.limits, X.bytes, X.same.trans (hsame.setVm s.vm)⟩,
      ⟨g, mk, s₂, L, rfl, rfl, hqc, rfl, hL, rfl, rfl⟩, ?_⟩
    show Steps p.tables e below _ ((({ U with heap := s₂.heap, slotsUsed := s₂.slotsUsed } : State).setVm s₂.vm).setTop { g with pc := g.pc + len₂, stack := v.toList ++ g.stack })
    rw [← hs₂]
    exact hsteps
  · obtain ⟨e2, q2, q3, q4, q5, q6⟩ := id hsm
    have e3 : s₂ = ({ (U.calling g mk a).setFrames s₂.frames with heap := s₂.heap, slotsUsed := s₂.slotsUsed } : State).setVm s₂.vm := by
      have : s₂ = ({ s₂ with vm := (U.calling g mk a).vm } : State).setVm s₂.vm := rfl
      rw [e2] at this
      exact this
    have hf₂ : s₂.frames = .throwing q :: .java g :: U.frames.tail := hend
    have hW' : U.WarmedH s₂.vm := hW₂
    have hs₂ : s₂ = ((({ U with heap := s₂.heap, slotsUsed := s₂.slotsUsed } : State).setVm s₂.vm).setTop g).pushFrame (.throwing q) := by
      refine e3.trans ?_
      rw [hf₂, State.calling_eq h.top, State.setFrames_setFrames, State.pushFrame, State.frames_setTop _ hr', State.setTop_of_frames _ hr', State.setFrames_setFrames, hr]
      rfl
    have hsame : U.sameButNew ({ U with heap := s₂.heap, slotsUsed := s₂.slotsUsed } : State) L mc ms := by
      refine ⟨?_, q2, q3, q4, q5, q6⟩
      obtain ⟨t, ht, -⟩ := State.frames_cons hr
      show ({ U with heap := s₂.heap, slotsUsed := s₂.slotsUsed } : State) = { U.setFrames U.frames with heap := s₂.heap, slotsUsed := s₂.slotsUsed }
      rw [State.setFrames_self ht]
    subst hg
    refine Or.inr ⟨q, ⟨(({ U with heap := s₂.heap, slotsUsed := s₂.slotsUsed } : State).setVm s₂.vm), Ls ++ L, c0 + mc, s0 + ms⟩,
      ⟨X.admits, X.cas, X.clock, X.frames, X.room, X.hears, X.method, X.code, (X.here.setHeapUsed s₂.heap s₂.slotsUsed).setVm hW'.alike, X.tail, State.WarmedH.trans X.warmed hW', X.limits, X.bytes, X.same.trans (hsame.setVm s.vm)⟩,
      ⟨g, mk, s₂, L, E, ce, rfl, rfl, hx, hce, hcv, hcl, rfl, hL, rfl, rfl⟩, ?_⟩
    show Steps p.tables e below _ (((({ U with heap := s₂.heap, slotsUsed := s₂.slotsUsed } : State).setVm s₂.vm).setTop g).pushFrame (.throwing q))
    rw [← hs₂]
    exact hsteps
end Payer
section Calls
variable {p : Program} {l : Launch} {e : Env} {R : Room} {s : State} {m : MethodId} {args : Array Value} {below : List Frame} {meth : Method} {c : Code} {T : State} {locs : List Loc} {cells slots : Nat}
theorem vx_callV (X : Stand p l e R s m args below meth c T locs cells slots) (hexec : p.tables.exec = Jvm.exec) {own C : String} {index : Nat} {y : MethodName} {bytes : ByteArray} {maxL : Nat} {ret : Option FieldType}
    (hown : s.vm.findClass own = some m.cls) (hlink : (Cond.methodLink own index y).before args s = true) (hinst : (Cond.instanceMethod y).before args s = true) (hsel : (Cond.selects C y y).before args s = true)
    (hcode : (Cond.code y bytes maxL ret).before args s = true) (hy : y.cls ≠ "java/lang/invoke/MethodHandle" ∧ y.cls ≠ "java/lang/invoke/VarHandle")
    {W9 : Nat} {Pre : Pt → Array Value → Prop} {Post : Pt → Array Value → Option Value → Pt → Prop} {PostX : Pt → Array Value → Addr → Pt → Prop} (hK : vx_Back l R p e below s args y 3 W9 Pre Post PostX)
    {b : Addr} {cellB : Cell} (hcell : T.heap[b]? = some cellB) (hobj : cellB.vm.isStatics = false) (hcls : s.vm.findClass C = some cellB.cls)
    {g : JFrame} (hg : g.method = m) (hsize : g.locals.size = c.maxLocals) {argsL rest : List Value} (hlen : ∀ sig, parseMethodDescriptor y.desc = some sig → argsL.length = sig.parameters.length)
    (hstack : g.stack = argsL.reverse ++ .ref b :: rest) (hW : 2 * g.monitorRoom + (rest.map fun v => v.category).sum ≤ W9) (hdg : decode c.code g.pc = .ok (.invokevirtual index, 3))
    (hpre : ∀ vm₁, s.WarmedH vm₁ → Pre ⟨T.setVm vm₁, locs, cells, slots⟩ (Value.ref b :: argsL).toArray) :
    (∃ (v : Option Value) (vm₁ : Vm) (B : Pt), s.WarmedH vm₁ ∧ Stand p l e R s m args below meth c B.U B.locs B.cells B.slots ∧ Post ⟨T.setVm vm₁, locs, cells, slots⟩ (Value.ref b :: argsL).toArray v B ∧
      ∀ target, Steps p.tables e below (B.U.setTop { g with pc := g.pc + 3, stack := v.toList ++ rest }) target → Steps p.tables e below (T.setTop g) target) ∨
    (∃ (q : Addr) (vm₁ : Vm) (B : Pt), s.WarmedH vm₁ ∧ Stand p l e R s m args below meth c B.U B.locs B.cells B.slots ∧ PostX ⟨T.setVm vm₁, locs, cells, slots⟩ (Value.ref b :: argsL).toArray q B ∧
      Steps p.tables e below (T.setTop g) ((B.U.setTop { g with stack := rest }).pushFrame (.throwing q))) := by
  obtain ⟨mk, methM, hnamed, hmethM, hstM, habM⟩ := Cond.instanceMethod_spec hinst
  obtain ⟨methM', cM, hmethM', -, -, -, -, -, -, hsigM⟩ := Cond.code_spec hnamed hcode
  cases hmethM.symm.trans hmethM'
  obtain ⟨c2, r2, m2, q1, q2, q3, q4, kP, hkP, hkPi⟩ := Cond.selects_spec hsel
  cases hcls.symm.trans q1
  cases (State.methodFound?_of_named hnamed hy).symm.trans q2
  cases hnamed.symm.trans q3
  have hselP : selectMethod e.platform s.vm cellB.cls mk = .method mk := by rw [Launch.admits_selectMethod X.admits]; exact q4
  obtain ⟨vm₁, X₁, hstep₁⟩ := X.invokevirtual hexec hown hlink hnamed hmethM hstM hkP hkPi hy (a := b) (cell := cellB) hcell
    (fun z h => by rw [h] at hobj; cases hobj) hselP hmethM habM hkP hkPi (g := g) hg (argsL := argsL) (rest := rest) (hlen _ hsigM) hstack hdg
  rcases hK m meth c ⟨T.setVm vm₁, locs, cells, slots⟩ { g with stack := rest } (.invokevirtual index) mk (Value.ref b :: argsL).toArray X₁ hg hsize hdg hW (X₁.named hnamed) (hpre vm₁ X₁.warmed) with ⟨v, B, X', hpost, hsteps⟩ | ⟨q, B, X', hpost, hsteps⟩
  · exact Or.inl ⟨v, vm₁, B, X₁.warmed, X', hpost, fun target h => hstep₁ _ fun acts => by rw [doInvoke_state]; exact hsteps.trans h⟩
  · exact Or.inr ⟨q, vm₁, B, X₁.warmed, X', hpost, hstep₁ _ fun acts => by rw [doInvoke_state]; exact hsteps⟩
theorem vx_callS (X : Stand p l e R s m args below meth c T locs cells slots) (hexec : p.tables.exec = Jvm.exec) {own : String} {index : Nat} {y : MethodName} {bytes : ByteArray} {maxL : Nat} {ret : Option FieldType}
    (hown : s.vm.findClass own = some m.cls) (hlink : (Cond.methodLink own index y).before args s = true) (hstat : (Cond.static y).before args s = true) (hinit : (Cond.initialized y.cls).before args s = true)
    (hcode : (Cond.code y bytes maxL ret).before args s = true) (hy : y.cls ≠ "java/lang/invoke/MethodHandle" ∧ y.cls ≠ "java/lang/invoke/VarHandle")
    {W9 : Nat} {Pre : Pt → Array Value → Prop} {Post : Pt → Array Value → Option Value → Pt → Prop} {PostX : Pt → Array Value → Addr → Pt → Prop} (hK : vx_Back l R p e below s args y 3 W9 Pre Post PostX)
    {g : JFrame} (hg : g.method = m) (hsize : g.locals.size = c.maxLocals) {argsL rest : List Value} (hlen : ∀ sig, parseMethodDescriptor y.desc = some sig → argsL.length = sig.parameters.length)
    (hstack : g.stack = argsL.reverse ++ rest) (hW : 2 * g.monitorRoom + (rest.map fun v => v.category).sum ≤ W9) (hdg : decode c.code g.pc = .ok (.invokestatic index, 3))
    (hpre : ∀ vm₁, s.WarmedH vm₁ → Pre ⟨T.setVm vm₁, locs, cells, slots⟩ argsL.toArray) :
    (∃ (v : Option Value) (vm₁ : Vm) (B : Pt), s.WarmedH vm₁ ∧ Stand p l e R s m args below meth c B.U B.locs B.cells B.slots ∧ Post ⟨T.setVm vm₁, locs, cells, slots⟩ argsL.toArray v B ∧
      ∀ target, Steps p.tables e below (B.U.setTop { g with pc := g.pc + 3, stack := v.toList ++ rest }) target → Steps p.tables e below (T.setTop g) target) ∨
    (∃ (q : Addr) (vm₁ : Vm) (B : Pt), s.WarmedH vm₁ ∧ Stand p l e R s m args below meth c B.U B.locs B.cells B.slots ∧ PostX ⟨T.setVm vm₁, locs, cells, slots⟩ argsL.toArray q B ∧
      Steps p.tables e below (T.setTop g) ((B.U.setTop { g with stack := rest }).pushFrame (.throwing q))) := by
  obtain ⟨mk, hnamed⟩ := Cond.code_named hcode
  obtain ⟨methM, cM, hmethM, -, -, -, -, -, -, hsigM⟩ := Cond.code_spec hnamed hcode
  have hstatic : methM.isStatic = true := Cond.static_spec hnamed hmethM hstat
  obtain ⟨kP, hkP, -⟩ := className_of_methodNamed hnamed
  have hinitP : kP.init = .initialized := Cond.initialized_spec (findClass_of_methodNamed hnamed) hkP hinit
  obtain ⟨vm₁, X₁, hstep₁⟩ := X.invokestatic hexec hown hlink hnamed hmethM hstatic hkP hinitP hy (g := g) hg (argsL := argsL) (rest := rest) (hlen _ hsigM) hstack hdg
  rcases hK m meth c ⟨T.setVm vm₁, locs, cells, slots⟩ { g with stack := rest } (.invokestatic index) mk argsL.toArray X₁ hg hsize hdg hW (X₁.named hnamed) (hpre vm₁ X₁.warmed) with ⟨v, B, X', hpost, hsteps⟩ | ⟨q, B, X', hpost, hsteps⟩
  · exact Or.inl ⟨v, vm₁, B, X₁.warmed, X', hpost, fun target h => hstep₁ _ fun acts => by rw [doInvoke_state]; exact hsteps.trans h⟩
  · exact Or.inr ⟨q, vm₁, B, X₁.warmed, X', hpost, hstep₁ _ fun acts => by rw [doInvoke_state]; exact hsteps⟩
end Calls
theorem vx_cls {s : State} {T : State} {vm₁ : Vm} {E : String} {k : ClassId} (hW : s.WarmedH vm₁) (h : (T.setVm vm₁).vm.findClass E = some k) : s.vm.findClass E = some k := by
  have h1 : vm₁.findClass E = some k := h
  rw [hW.alike.findClass] at h1
  exact h1
/-- the method's frame g, with q thrown over it -/
def vx_W (p : Program) (l : Launch) (e : Env) (R : Room) (s : State) (m : MethodId) (args : Array Value) (below : List Frame) (meth : Method) (c : Code) (H : Heap) (locs : List Loc) (cells slots : Nat) (Q : State → Prop) (g : JFrame) (q : Addr) : Prop :=
  ∀ T : State, T.heap = H → Stand p l e R s m args below meth c T locs cells slots → ∃ t, Steps p.tables e below ((T.setTop g).pushFrame (.throwing q)) t ∧ Q t
def vx_Run (p : Program) (l : Launch) (e : Env) (R : Room) (s : State) (m : MethodId) (args : Array Value) (below : List Frame) (meth : Method) (c : Code) (H : Heap) (locs : List Loc) (cells slots mc ms : Nat) (g : JFrame) (rest : List Value) (Qa : State → Outcome → State → Prop) (XC : String → State → State → Prop) (free : Addr → Prop) : Prop :=
  ∀ T : State, T.heap = H → Stand p l e R s m args below meth c T locs cells slots →
    (∃ (v : Option Value) (st₀ t T' : State) (L : List Loc), st₀.heap = H ∧ Stand p l e R s m args below meth c T' (locs ++ L) (cells + mc) (slots + ms) ∧ (∀ q ∈ L, free q.base) ∧ T'.heap = t.heap ∧ T'.vm = t.vm ∧ Qa st₀ (.returned v) t ∧
      Goes p e below T g T' { g with pc := g.pc + 3, stack := v.toList ++ rest }) ∨
    (∃ (q : Addr) (st₀ t T' : State) (L : List Loc) (E : String) (ce : Cell), st₀.heap = H ∧ Stand p l e R s m args below meth c T' (locs ++ L) (cells + mc) (slots + ms) ∧ (∀ z ∈ L, free z.base) ∧ T'.heap = t.heap ∧ T'.vm = t.vm ∧ XC E st₀ t ∧ t.heap[q]? = some ce ∧ ce.vm = .none ∧ s.vm.findClass E = some ce.cls ∧
      Steps p.tables e below (T.setTop g) ((T'.setTop { g with stack := rest }).pushFrame (.throwing q)))
def vx_X {S : Type} (px : S → Prop) (B : String → S → State → Prop) (A : Nat → Prop) : String → State → State → Prop := fun E st t => ∃ u : S, px u ∧ B E u t ∧ va_F A st t
section Runs
variable {p : Program} {l : Launch} {e : Env} {R : Room} {s : State} {m : MethodId} {args : Array Value} {below : List Frame} {meth : Method} {c : Code} {H : Heap} {locs : List Loc} {cells slots : Nat}
variable {y : MethodName} {bytes cc : ByteArray} {maxL nL mc ms n index : Nat} {ret : Option FieldType} {ws : List Cond} {rm : Room} {Pc : Array Value → State → Prop} {Qc : Array Value → State → Outcome → State → Prop} {XC : String → State → State → Prop} {free : Addr → Prop} {Ts : List Cond} {own C : String} {b : Addr} {As rest : List Value} {g : JFrame}
theorem vx_callBack (cb : CallB R s args own index y bytes maxL ret ws rm mc ms n) (hM : vx_Met l y ws rm Pc Qc XC mc ms free) (hbl : FrameBlind Pc) : vx_Back l R p e below s args y 3 8 (PreOf R mc ms Pc) (PostOf Qc mc ms free) (vx_Post XC mc ms free) := by
  obtain ⟨hrc, hrs, hfr, hlo, hws, hcw, -, hini, -⟩ := cb
  exact vx_back (bytes := bytes) (maxL := maxL) (ret := ret) hM hbl hrc hrs hfr hlo hws hcw (fun a' U hW => word_at hW (Or.inl (by first | rfl | simp [Cond.onTables, Cond.keeps, Cond.steady])) hini)
theorem vx_runV (S : CallFix p m c cc nL s args Ts own) (hM : vx_Met l y ws rm Pc Qc XC mc ms free) (cw : CallW R s args own C index y bytes maxL ret ws rm mc ms n) (hp : PreV s H C b Pc As)
    (hg : g.method = m) (hn : As.length = n) (hsize : g.locals.size = nL) (hstack : g.stack = As.reverse ++ .ref b :: rest) (hW : 2 * g.monitorRoom + (rest.map fun v => v.category).sum ≤ 8) (hdg : decode cc g.pc = .ok (.invokevirtual index, 3)) (hf : cells + mc ≤ R.cells ∧ slots + ms ≤ R.slots) :
    vx_Run p l e R s m args below meth c H locs cells slots mc ms g rest (Qc (Value.ref b :: As).toArray) XC free := by
  have hK : vx_Back l R p e below s args y 3 8 (PreOf R mc ms Pc) (PostOf Qc mc ms free) (vx_Post XC mc ms free) := vx_callBack cw.1 hM hp.1
  obtain ⟨⟨-, -, -, -, -, -, hcode, -, hy, hlen, hl⟩, hin, hse⟩ := cw
  obtain ⟨hx, hb, hml, ho, -⟩ := S
  obtain ⟨-, ⟨cellB, hcB, hoB, hclB⟩, hPc⟩ := hp
  intro T hT X
  rcases vx_callV X hx (C := C) (bytes := bytes) (maxL := maxL) (ret := ret) ho hl hin hse hcode hy hK (by rw [hT]; exact hcB) hoB hclB hg (hsize.trans hml.symm) (argsL := As) (rest := rest) (fun sig h => hn.trans (hlen sig h)) hstack hW (by rw [hb]; exact hdg)
    (fun vm₁ hW₁ => ⟨hf.1, hf.2, hPc (T.setVm vm₁) hT hW₁⟩) with ⟨v, vm₁, ⟨U', l2, c2, s2⟩, hW₁, X', ⟨g', mk, t, L, e1, e2, hq, h1, hL, h2, h3⟩, st⟩ | ⟨q, vm₁, ⟨U', l2, c2, s2⟩, hW₁, X', ⟨g', mk, t, L, E, ce, e1, e2, hq, hce, hcv, hcl, h1, hL, h2, h3⟩, st⟩
  · dsimp only [Pt.U, Pt.locs, Pt.cells, Pt.slots] at X' e1 e2 h1 h2 h3 st
    subst h1; subst h2; subst h3
    exact Or.inl ⟨v, (T.setVm vm₁).calling g' mk (Value.ref b :: As).toArray, t, U', L, hT, X', hL, e1, e2, hq, st⟩
  · dsimp only [Pt.U, Pt.locs, Pt.cells, Pt.slots] at X' e1 e2 h1 h2 h3 st hcl
    subst h1; subst h2; subst h3
    exact Or.inr ⟨q, (T.setVm vm₁).calling g' mk (Value.ref b :: As).toArray, t, U', L, E, ce, hT, X', hL, e1, e2, hq, hce, hcv, vx_cls hW₁ hcl, st⟩
theorem vx_runS (S : CallFix p m c cc nL s args Ts own) (hM : vx_Met l y ws rm Pc Qc XC mc ms free) (cw : CallB R s args own index y bytes maxL ret ws rm mc ms n ∧ (Cond.static y).before args s = true) (hp : PreS s H Pc As)
    (hg : g.method = m) (hn : As.length = n) (hsize : g.locals.size = nL) (hstack : g.stack = As.reverse ++ rest) (hW : 2 * g.monitorRoom + (rest.map fun v => v.category).sum ≤ 8) (hdg : decode cc g.pc = .ok (.invokestatic index, 3)) (hf : cells + mc ≤ R.cells ∧ slots + ms ≤ R.slots) :
    vx_Run p l e R s m args below meth c H locs cells slots mc ms g rest (Qc As.toArray) XC free := by
  have hK : vx_Back l R p e below s args y 3 8 (PreOf R mc ms Pc) (PostOf Qc mc ms free) (vx_Post XC mc ms free) := vx_callBack cw.1 hM hp.1
  obtain ⟨⟨-, -, -, -, -, -, hcode, hini, hy, hlen, hl⟩, hstt⟩ := cw
  obtain ⟨hx, hb, hml, ho, -⟩ := S
  intro T hT X
  rcases vx_callS X hx (bytes := bytes) (maxL := maxL) (ret := ret) ho hl hstt hini hcode hy hK hg (hsize.trans hml.symm) (argsL := As) (rest := rest) (fun sig h => hn.trans (hlen sig h)) hstack hW (by rw [hb]; exact hdg)
    (fun vm₁ hW₁ => ⟨hf.1, hf.2, hp.2 (T.setVm vm₁) hT hW₁⟩) with ⟨v, vm₁, ⟨U', l2, c2, s2⟩, hW₁, X', ⟨g', mk, t, L, e1, e2, hq, h1, hL, h2, h3⟩, st⟩ | ⟨q, vm₁, ⟨U', l2, c2, s2⟩, hW₁, X', ⟨g', mk, t, L, E, ce, e1, e2, hq, hce, hcv, hcl, h1, hL, h2, h3⟩, st⟩
  · dsimp only [Pt.U, Pt.locs, Pt.cells, Pt.slots] at X' e1 e2 h1 h2 h3 st
    subst h1; subst h2; subst h3
    exact Or.inl ⟨v, (T.setVm vm₁).calling g' mk As.toArray, t, U', L, hT, X', hL, e1, e2, hq, st⟩
  · dsimp only [Pt.U, Pt.locs, Pt.cells, Pt.slots] at X' e1 e2 h1 h2 h3 st hcl
    subst h1; subst h2; subst h3
    exact Or.inr ⟨q, (T.setVm vm₁).calling g' mk As.toArray, t, U', L, E, ce, hT, X', hL, e1, e2, hq, hce, hcv, vx_cls hW₁ hcl, st⟩
end Runs
section Rows
variable {p : Program} {l : Launch} {e : Env} {R : Room} {s : State} {m : MethodId} {args : Array Value} {below : List Frame} {meth : Method} {c : Code} {H : Heap} {locs : List Loc} {cells slots : Nat} {Q : State → Prop}
variable {mc ms : Nat} {free : Addr → Prop} {A0 A1 : Nat → Prop} {H0 : Heap} {a : Array Value} {pc : Nat} {ls : Array Slot} {st0 rest : List Value}
theorem vx_keep {st₀ t T' : State} {L : List Loc} (h0 : st₀.heap = H) (e1 : T'.heap = t.heap) (hS : va_S A0 H0 H locs) (hA : ∀ q, q < H.size → A1 q → A0 q) (hf : ∀ q, free q → A0 q) (hL : ∀ q ∈ L, free q.base) (hF : va_F A1 st₀ t) :
    H.size ≤ T'.heap.size ∧ (∀ q : Nat, q < H.size → ¬ A1 q → T'.heap[q]? = H[q]?) ∧ va_S A0 H0 T'.heap (locs ++ L) := by
  obtain ⟨hz, hk⟩ := hF
  rw [h0] at hz hk
  exact ⟨by rw [e1]; exact hz, fun q h1 h2 => by rw [e1]; exact hk q h1 h2,
    ⟨Nat.le_trans hS.1 (by rw [e1]; exact hz), fun q h1 h2 => by rw [e1, hk q (Nat.lt_of_lt_of_le h1 hS.1) (fun z => h2 (hA q (Nat.lt_of_lt_of_le h1 hS.1) z))]; exact hS.2.1 q h1 h2, fun q hq => by
      rcases List.mem_append.mp hq with h | h
      · exact hS.2.2 q h
      · exact hf _ (hL q h)⟩⟩
theorem vx_calli {S SX : Type} {post : Int32 → S → Prop} {px : SX → Prop} {B : S → State → Prop} {BX : String → SX → State → Prop} {AX : Nat → Prop} (hr : vx_Run p l e R s m args below meth c H locs cells slots mc ms (F0 m pc ls st0) rest (va_Qi post B A1 a) (vx_X px BX AX) free) (hS : va_S A0 H0 H locs) (hA : ∀ q, q < H.size → A1 q → A0 q) (hf : ∀ q, free q → A0 q) (hAX : ∀ q, q < H.size → AX q → A0 q)
    (kx : ∀ (E : String) (ce : Cell) (q9 : Addr) (u : SX) (t : State) (H1 : Heap) (locs1 : List Loc), t.heap = H1 → s.vm.Alike t.vm → px u → BX E u t → H.size ≤ H1.size → (∀ q : Nat, q < H.size → ¬ AX q → H1[q]? = H[q]?) → va_S A0 H0 H1 locs1 → H1[q9]? = some ce → ce.vm = .none → s.vm.findClass E = some ce.cls → vx_W p l e R s m args below meth c H1 locs1 (cells + mc) (slots + ms) Q (F0 m pc ls rest) q9)
    (kk : ∀ (r : Int32) (u : S) (t : State) (H1 : Heap) (locs1 : List Loc), t.heap = H1 → s.vm.Alike t.vm → post r u → B u t → H.size ≤ H1.size → (∀ q : Nat, q < H.size → ¬ A1 q → H1[q]? = H[q]?) → va_S A0 H0 H1 locs1 → W p l e R s m args below meth c H1 locs1 (cells + mc) (slots + ms) Q (F0 m (pc + 3) ls (.int r :: rest))) : W p l e R s m args below meth c H locs cells slots Q (F0 m pc ls st0) := by
  intro T hT X
  rcases hr T hT X with ⟨v, st₀, t, T', L, h0, X', hL, e1, e2, ⟨⟨r, u, hv, hp, hb⟩, hF⟩, st⟩ | ⟨q, st₀, t, T', L, E, ce, h0, X', hL, e1, e2, ⟨u, hp, hb, hF⟩, hce, hcv, hcl, st⟩
  · cases hv
    obtain ⟨k1, k2, k3⟩ := vx_keep h0 e1 hS hA hf hL hF
    obtain ⟨t2, a1, b1⟩ := kk r u t T'.heap (locs ++ L) e1.symm (by rw [← e2]; exact X'.warmed.alike) hp hb k1 k2 k3 T' rfl X'
    exact ⟨t2, st t2 a1, b1⟩
  · obtain ⟨k1, k2, k3⟩ := vx_keep h0 e1 hS hAX hf hL hF
    obtain ⟨t2, a1, b1⟩ := kx E ce q u t T'.heap (locs ++ L) e1.symm (by rw [← e2]; exact X'.warmed.alike) hp hb k1 k2 k3 (by rw [e1]; exact hce) hcv hcl T' rfl X'
    exact ⟨t2, st.trans a1, b1⟩
theorem vx_calll {S SX : Type} {post : Int64 → S → Prop} {px : SX → Prop} {B : S → State → Prop} {BX : String → SX → State → Prop} {AX : Nat → Prop} (hr : vx_Run p l e R s m args below meth c H locs cells slots mc ms (F0 m pc ls st0) rest (va_Ql post B A1 a) (vx_X px BX AX) free) (hS : va_S A0 H0 H locs) (hA : ∀ q, q < H.size → A1 q → A0 q) (hf : ∀ q, free q → A0 q) (hAX : ∀ q, q < H.size → AX q → A0 q)
    (kx : ∀ (E : String) (ce : Cell) (q9 : Addr) (u : SX) (t : State) (H1 : Heap) (locs1 : List Loc), t.heap = H1 → s.vm.Alike t.vm → px u → BX E u t → H.size ≤ H1.size → (∀ q : Nat, q < H.size → ¬ AX q → H1[q]? = H[q]?) → va_S A0 H0 H1 locs1 → H1[q9]? = some ce → ce.vm = .none → s.vm.findClass E = some ce.cls → vx_W p l e R s m args below meth c H1 locs1 (cells + mc) (slots + ms) Q (F0 m pc ls rest) q9)
    (kk : ∀ (r : Int64) (u : S) (t : State) (H1 : Heap) (locs1 : List Loc), t.heap = H1 → s.vm.Alike t.vm → post r u → B u t → H.size ≤ H1.size → (∀ q : Nat, q < H.size → ¬ A1 q → H1[q]? = H[q]?) → va_S A0 H0 H1 locs1 → W p l e R s m args below meth c H1 locs1 (cells + mc) (slots + ms) Q (F0 m (pc + 3) ls (.long r :: rest))) : W p l e R s m args below meth c H locs cells slots Q (F0 m pc ls st0) := by
  intro T hT X
  rcases hr T hT X with ⟨v, st₀, t, T', L, h0, X', hL, e1, e2, ⟨⟨r, u, hv, hp, hb⟩, hF⟩, st⟩ | ⟨q, st₀, t, T', L, E, ce, h0, X', hL, e1, e2, ⟨u, hp, hb, hF⟩, hce, hcv, hcl, st⟩
  · cases hv
    obtain ⟨k1, k2, k3⟩ := vx_keep h0 e1 hS hA hf hL hF
    obtain ⟨t2, a1, b1⟩ := kk r u t T'.heap (locs ++ L) e1.symm (by rw [← e2]; exact X'.warmed.alike) hp hb k1 k2 k3 T' rfl X'
    exact ⟨t2, st t2 a1, b1⟩
  · obtain ⟨k1, k2, k3⟩ := vx_keep h0 e1 hS hAX hf hL hF
    obtain ⟨t2, a1, b1⟩ := kx E ce q u t T'.heap (locs ++ L) e1.symm (by rw [← e2]; exact X'.warmed.alike) hp hb k1 k2 k3 (by rw [e1]; exact hce) hcv hcl T' rfl X'
    exact ⟨t2, st.trans a1, b1⟩
theorem vx_callf {S SX : Type} {post : UInt32 → S → Prop} {px : SX → Prop} {B : S → State → Prop} {BX : String → SX → State → Prop} {AX : Nat → Prop} (hr : vx_Run p l e R s m args below meth c H locs cells slots mc ms (F0 m pc ls st0) rest (va_Qf post B A1 a) (vx_X px BX AX) free) (hS : va_S A0 H0 H locs) (hA : ∀ q, q < H.size → A1 q → A0 q) (hf : ∀ q, free q → A0 q) (hAX : ∀ q, q < H.size → AX q → A0 q)
    (kx : ∀ (E : String) (ce : Cell) (q9 : Addr) (u : SX) (t : State) (H1 : Heap) (locs1 : List Loc), t.heap = H1 → s.vm.Alike t.vm → px u → BX E u t → H.size ≤ H1.size → (∀ q : Nat, q < H.size → ¬ AX q → H1[q]? = H[q]?) → va_S A0 H0 H1 locs1 → H1[q9]? = some ce → ce.vm = .none → s.vm.findClass E = some ce.cls → vx_W p l e R s m args below meth c H1 locs1 (cells + mc) (slots + ms) Q (F0 m pc ls rest) q9)
    (kk : ∀ (r : UInt32) (u : S) (t : State) (H1 : Heap) (locs1 : List Loc), t.heap = H1 → s.vm.Alike t.vm → post r u → B u t → H.size ≤ H1.size → (∀ q : Nat, q < H.size → ¬ A1 q → H1[q]? = H[q]?) → va_S A0 H0 H1 locs1 → W p l e R s m args below meth c H1 locs1 (cells + mc) (slots + ms) Q (F0 m (pc + 3) ls (.float r :: rest))) : W p l e R s m args below meth c H locs cells slots Q (F0 m pc ls st0) := by
  intro T hT X
  rcases hr T hT X with ⟨v, st₀, t, T', L, h0, X', hL, e1, e2, ⟨⟨r, u, hv, hp, hb⟩, hF⟩, st⟩ | ⟨q, st₀, t, T', L, E, ce, h0, X', hL, e1, e2, ⟨u, hp, hb, hF⟩, hce, hcv, hcl, st⟩
  · cases hv
    obtain ⟨k1, k2, k3⟩ := vx_keep h0 e1 hS hA hf hL hF
    obtain ⟨t2, a1, b1⟩ := kk r u t T'.heap (locs ++ L) e1.symm (by rw [← e2]; exact X'.warmed.alike) hp hb k1 k2 k3 T' rfl X'
    exact ⟨t2, st t2 a1, b1⟩
  · obtain ⟨k1, k2, k3⟩ := vx_keep h0 e1 hS hAX hf hL hF
    obtain ⟨t2, a1, b1⟩ := kx E ce q u t T'.heap (locs ++ L) e1.symm (by rw [← e2]; exact X'.warmed.alike) hp hb k1 k2 k3 (by rw [e1]; exact hce) hcv hcl T' rfl X'
    exact ⟨t2, st.trans a1, b1⟩
theorem vx_calld {S SX : Type} {post : UInt64 → S → Prop} {px : SX → Prop} {B : S → State → Prop} {BX : String → SX → State → Prop} {AX : Nat → Prop} (hr : vx_Run p l e R s m args below meth c H locs cells slots mc ms (F0 m pc ls st0) rest (va_Qd post B A1 a) (vx_X px BX AX) free) (hS : va_S A0 H0 H locs) (hA : ∀ q, q < H.size → A1 q → A0 q) (hf : ∀ q, free q → A0 q) (hAX : ∀ q, q < H.size → AX q → A0 q)
    (kx : ∀ (E : String) (ce : Cell) (q9 : Addr) (u : SX) (t : State) (H1 : Heap) (locs1 : List Loc), t.heap = H1 → s.vm.Alike t.vm → px u → BX E u t → H.size ≤ H1.size → (∀ q : Nat, q < H.size → ¬ AX q → H1[q]? = H[q]?) → va_S A0 H0 H1 locs1 → H1[q9]? = some ce → ce.vm = .none → s.vm.findClass E = some ce.cls → vx_W p l e R s m args below meth c H1 locs1 (cells + mc) (slots + ms) Q (F0 m pc ls rest) q9)
    (kk : ∀ (r : UInt64) (u : S) (t : State) (H1 : Heap) (locs1 : List Loc), t.heap = H1 → s.vm.Alike t.vm → post r u → B u t → H.size ≤ H1.size → (∀ q : Nat, q < H.size → ¬ A1 q → H1[q]? = H[q]?) → va_S A0 H0 H1 locs1 → W p l e R s m args below meth c H1 locs1 (cells + mc) (slots + ms) Q (F0 m (pc + 3) ls (.double r :: rest))) : W p l e R s m args below meth c H locs cells slots Q (F0 m pc ls st0) := by
  intro T hT X
  rcases hr T hT X with ⟨v, st₀, t, T', L, h0, X', hL, e1, e2, ⟨⟨r, u, hv, hp, hb⟩, hF⟩, st⟩ | ⟨q, st₀, t, T', L, E, ce, h0, X', hL, e1, e2, ⟨u, hp, hb, hF⟩, hce, hcv, hcl, st⟩
  · cases hv
    obtain ⟨k1, k2, k3⟩ := vx_keep h0 e1 hS hA hf hL hF
    obtain ⟨t2, a1, b1⟩ := kk r u t T'.heap (locs ++ L) e1.symm (by rw [← e2]; exact X'.warmed.alike) hp hb k1 k2 k3 T' rfl X'
    exact ⟨t2, st t2 a1, b1⟩
  · obtain ⟨k1, k2, k3⟩ := vx_keep h0 e1 hS hAX hf hL hF
    obtain ⟨t2, a1, b1⟩ := kx E ce q u t T'.heap (locs ++ L) e1.symm (by rw [← e2]; exact X'.warmed.alike) hp hb k1 k2 k3 (by rw [e1]; exact hce) hcv hcl T' rfl X'
    exact ⟨t2, st.trans a1, b1⟩
theorem vx_callv {S SX : Type} {post : S → Prop} {px : SX → Prop} {B : S → State → Prop} {BX : String → SX → State → Prop} {AX : Nat → Prop} (hr : vx_Run p l e R s m args below meth c H locs cells slots mc ms (F0 m pc ls st0) rest (va_Qv post B A1 a) (vx_X px BX AX) free) (hS : va_S A0 H0 H locs) (hA : ∀ q, q < H.size → A1 q → A0 q) (hf : ∀ q, free q → A0 q) (hAX : ∀ q, q < H.size → AX q → A0 q)
    (kx : ∀ (E : String) (ce : Cell) (q9 : Addr) (u : SX) (t : State) (H1 : Heap) (locs1 : List Loc), t.heap = H1 → s.vm.Alike t.vm → px u → BX E u t → H.size ≤ H1.size → (∀ q : Nat, q < H.size → ¬ AX q → H1[q]? = H[q]?) → va_S A0 H0 H1 locs1 → H1[q9]? = some ce → ce.vm = .none → s.vm.findClass E = some ce.cls → vx_W p l e R s m args below meth c H1 locs1 (cells + mc) (slots + ms) Q (F0 m pc ls rest) q9)
    (kk : ∀ (u : S) (t : State) (H1 : Heap) (locs1 : List Loc), t.heap = H1 → s.vm.Alike t.vm → post u → B u t → H.size ≤ H1.size → (∀ q : Nat, q < H.size → ¬ A1 q → H1[q]? = H[q]?) → va_S A0 H0 H1 locs1 → W p l e R s m args below meth c H1 locs1 (cells + mc) (slots + ms) Q (F0 m (pc + 3) ls (rest))) : W p l e R s m args below meth c H locs cells slots Q (F0 m pc ls st0) := by
  intro T hT X
  rcases hr T hT X with ⟨v, st₀, t, T', L, h0, X', hL, e1, e2, ⟨⟨u, hv, hp, hb⟩, hF⟩, st⟩ | ⟨q, st₀, t, T', L, E, ce, h0, X', hL, e1, e2, ⟨u, hp, hb, hF⟩, hce, hcv, hcl, st⟩
  · cases hv
    obtain ⟨k1, k2, k3⟩ := vx_keep h0 e1 hS hA hf hL hF
    obtain ⟨t2, a1, b1⟩ := kk u t T'.heap (locs ++ L) e1.symm (by rw [← e2]; exact X'.warmed.alike) hp hb k1 k2 k3 T' rfl X'
    exact ⟨t2, st t2 a1, b1⟩
  · obtain ⟨k1, k2, k3⟩ := vx_keep h0 e1 hS hAX hf hL hF
    obtain ⟨t2, a1, b1⟩ := kx E ce q u t T'.heap (locs ++ L) e1.symm (by rw [← e2]; exact X'.warmed.alike) hp hb k1 k2 k3 (by rw [e1]; exact hce) hcv hcl T' rfl X'
    exact ⟨t2, st.trans a1, b1⟩
/-- caught by the row x of this method's table; the rows ahead don't take it -/
theorem vx_catch {own name : String} {E : String} {ce : Cell} {q : Addr} (hown : s.vm.findClass own = some m.cls) (pre : List ExceptionTableEntry) (x : ExceptionTableEntry) (suf : List ExceptionTableEntry) (hsplit : c.exceptionTable.toList = pre ++ x :: suf)
    (hpass : ∀ z ∈ pre, covers z pc = false ∨ (z.catchType ≠ 0 ∧ ∃ nm : String, (Cond.classLink own z.catchType nm).before args s = true ∧ va_Nc E nm s)) (hx : covers x pc = true) (h0 : x.catchType ≠ 0)
    (hlink : (Cond.classLink own x.catchType name).before args s = true) (hcast : (Cond.castable E name).before args s = true) (hcell : H[q]? = some ce) (hv : ce.vm = .none) (hcl : s.vm.findClass E = some ce.cls)
    (kk : W p l e R s m args below meth c H locs cells slots Q (F0 m x.handlerPc ls [.ref q])) : vx_W p l e R s m args below meth c H locs cells slots Q (F0 m pc ls rest) q := by
  intro T hT X
  have hpl : e.platform.magicAccessors = ({} : Platform).magicAccessors := by rw [X.admits.platform]
  obtain ⟨c3, c4, hc3, hc4, hasg⟩ := Cond.castable_spec hcast
  cases Option.some.inj (hc3.symm.trans hcl)
  obtain ⟨c5, hc5, hcl5⟩ := Cond.classLink_spec hown hlink e.platform hpl
  cases Option.some.inj (hc4.symm.trans hc5)
  obtain ⟨vm', X', st⟩ := X.thenCaughtThrough q (g := F0 m pc ls rest) rfl (Steps.refl _) (by rw [hT]; exact hcell) (by rw [hv]; rfl) (by obtain ⟨k9, h9, -⟩ := Vm.findClass_spec hcl; exact ⟨k9, h9⟩) pre x suf hsplit
    (fun z hz => by
      rcases hpass z hz with h | ⟨hz0, nm, hl1, hn1⟩
      · exact Or.inl h
      · obtain ⟨c6, hc6, hcl6⟩ := Cond.classLink_spec hown hl1 e.platform hpl
        obtain ⟨a8, b8, h1, h2, h3⟩ := hn1
        cases Option.some.inj (h1.symm.trans hcl)
        cases Option.some.inj (h2.symm.trans hc6)
        exact Or.inr ⟨hz0, _, hcl6, h3⟩) hx (Or.inr ⟨h0, c4, hcl5, hasg⟩)
  obtain ⟨t, a1, b1⟩ := kk (T.setVm vm') hT X'
  exact ⟨t, st.trans a1, b1⟩
end Rows
section Ends
variable {p : Program} {l : Launch} {e : Env} {R : Room} {s : State} {m : MethodId} {args : Array Value} {below : List Frame} {meth : Method} {c : Code} {H : Heap} {locs : List Loc} {cells slots : Nat} {Q : State → Prop}
variable {mc ms : Nat} {free : Addr → Prop} {A0 A1 : Nat → Prop} {H0 : Heap} {a : Array Value} {ls : Array Slot} {st0 rest : List Value}
variable {Qc : Array Value → State → Outcome → State → Prop} {XC : String → State → State → Prop}
/-- what a body that may throw owes at its end -/
def vx_MQ (below : List Frame) (Qc : Array Value → State → Outcome → State → Prop) (XC : String → State → State → Prop) (a : Array Value) (s : State) (mc ms : Nat) (free : Addr → Prop) : State → Prop := fun t =>
  ∃ o, t.status = .running ∧ Ended t below o ∧ vx_Q Qc XC mc ms free a s o t
theorem vx_ret {g : JFrame} {mc ms : Nat} (k : W p l e R s m args below meth c H locs cells slots (MQ below Qc args s mc ms free) g) : W p l e R s m args below meth c H locs cells slots (vx_MQ below Qc XC args s mc ms free) g := by
  intro T hT X
  obtain ⟨t, a1, o, b1, b2, b3, b4⟩ := k T hT X
  exact ⟨t, a1, o, b1, b2, Or.inl ⟨b3, b4⟩⟩
/-- not caught here: it goes on to the caller -/
theorem vx_widen {g : JFrame} {q : Addr} {k n : Nat} (h1 : cells ≤ k) (h2 : slots ≤ n) (kk : vx_W p l e R s m args below meth c H locs k n Q g q) : vx_W p l e R s m args below meth c H locs cells slots Q g q := fun T hT X => kk T hT (stand_widen X h1 h2)
theorem vx_out {pc : Nat} {E : String} {ce : Cell} {q : Addr} {mc ms : Nat} (hout : ∀ x ∈ c.exceptionTable.toList, covers x pc = false) (hlocks : meth.locks = false) (hcell : H[q]? = some ce) (hv : ce.vm = .none) (hcl : s.vm.findClass E = some ce.cls)
    (hx : ∀ t : State, t.heap = H → s.vm.Alike t.vm → XC E s t) (hf : ∀ z ∈ locs, free z.base) (hc : cells ≤ mc) (hs : slots ≤ ms) :
    vx_W p l e R s m args below meth c H locs cells slots (vx_MQ below Qc XC args s mc ms free) (F0 m pc ls rest) q := by
  intro T hT X
  obtain ⟨st1, hrun, hend, hW, hsm⟩ := X.leaveThrown q (g := F0 m pc ls rest) rfl rfl rfl hout hlocks
  have hcell9 : (T.setFrames (.throwing q :: below)).heap[q]? = some ce := by
    show T.heap[q]? = some ce
    rw [hT]; exact hcell
  exact ⟨_, st1, .threw q, hrun, hend, Or.inr ⟨q, rfl, E, ce, locs, hx _ hT hW.alike, hcell9, hv, hcl, hW, hsm.mono hc hs, hf⟩⟩
theorem vx_frame {U : State} {k n : Nat} (h : s.sameButNew ({ U with vm := s.vm } : State) locs k n) : s.heap.size ≤ U.heap.size ∧ ∀ q : Nat, q < s.heap.size → (∀ z ∈ locs, z.base ≠ q) → U.heap[q]? = s.heap[q]? := by
  obtain ⟨-, h2, -, -, -, h6⟩ := h
  refine ⟨h2, fun q hq hz => ?_⟩
  obtain ⟨c9, e1, e2, e3, e4⟩ := h6 q _ (Array.getElem?_eq_getElem hq)
  have hs : c9.slots = (s.heap[q]).slots := Array.ext_getElem? fun i => e4 i fun hm => hz _ hm rfl
  have h9 : c9 = s.heap[q] := by
    rw [hs] at e2
    exact e2
  have e5 : U.heap[q]? = some c9 := e1
  rw [e5, h9, Array.getElem?_eq_getElem hq]
/-- the words of a throw but the four that speak of the heap -/
def vx_no (w : Cond) : Bool := decide (w ≠ .isRef (.static Bundle.tN "UNASSIGNED_STACK" Bundle.steD)) && decide (w ≠ .isRef (.static Bundle.tN "SUPPRESSED_SENTINEL" Bundle.listD)) && decide (w ≠ .laysStatic Bundle.tN "UNASSIGNED_STACK" Bundle.steD) && decide (w ≠ .laysStatic Bundle.tN "SUPPRESSED_SENTINEL" Bundle.listD)
def vx_at0 (own : String) (ic : Nat) (X : String) (names : List String) : List Cond := (Bundle.ownAtoms0 own ic X names).filter vx_no
def vx_atS (own : String) (ic : Nat) (X : String) (names : List String) : List Cond := (Bundle.ownAtoms own ic X names).filter vx_no
/-- a word that the tables alone decide, or a good one -/
def vx_ot (w : Cond) : Bool := w.onTables || goodWord w
theorem vx_ot_at {args a' : Array Value} {s U : State} {w : Cond} (hW : s.WarmedH U.vm) (hvm : s.vm = U.vm) (hg : vx_ot w = true) (h : w.before args s = true) : w.before a' U = true := by
  simp only [vx_ot, Bool.or_eq_true] at hg
  rcases hg with hg | hg
  · exact va_tabs hg hvm h
  · exact word_at hW (good_of_word hg) h
/-- a list's words: the good ones out of the method's own list, the others by premises of their own -/
theorem vx_hat {args : Array Value} {s : State} {L B : List Cond} (h1 : ∀ w ∈ L.filter goodWord, w.before args s = true) (h2 : ∀ w ∈ L.filter (fun w => !goodWord w), w ∈ B) (h3 : ∀ w ∈ B, w.before args s = true) : ∀ w ∈ L, w.before args s = true := by
  intro w hw
  by_cases g : goodWord w = true
  · exact h1 w (List.mem_filter.mpr ⟨hw, g⟩)
  · refine h3 w (h2 w (List.mem_filter.mpr ⟨hw, ?_⟩))
    show (!goodWord w) = true
    cases hgw : goodWord w
    · rfl
    · exact absurd hgw g
theorem vx_c {args : Array Value} {s : State} {w : Cond} {B : List Cond} (h : w.before args s = true) (t : ∀ w ∈ B, w.before args s = true) : ∀ w' ∈ w :: B, w'.before args s = true := fun w' h' => (List.mem_cons.mp h').elim (fun e => by rw [e]; exact h) (t w')
theorem vx_n {args : Array Value} {s : State} : ∀ w ∈ ([] : List Cond), w.before args s = true := fun _ h => nomatch h
theorem vx_own {args : Array Value} {s : State} {L : List Cond} (h1 : ∀ w ∈ L.filter vx_no, w.before args s = true)
    (hU : (Cond.isRef (.static Bundle.tN "UNASSIGNED_STACK" Bundle.steD)).before args s = true) (hN : (Cond.isRef (.static Bundle.tN "SUPPRESSED_SENTINEL" Bundle.listD)).before args s = true)
    (lU : (Cond.laysStatic Bundle.tN "UNASSIGNED_STACK" Bundle.steD).before args s = true) (lN : (Cond.laysStatic Bundle.tN "SUPPRESSED_SENTINEL" Bundle.listD).before args s = true) : ∀ w ∈ L, w.before args s = true := by
  intro w hw
  by_cases e1 : w = .isRef (.static Bundle.tN "UNASSIGNED_STACK" Bundle.steD)
  · rw [e1]; exact hU
  · by_cases e2 : w = .isRef (.static Bundle.tN "SUPPRESSED_SENTINEL" Bundle.listD)
    · rw [e2]; exact hN
    · by_cases e3 : w = .laysStatic Bundle.tN "UNASSIGNED_STACK" Bundle.steD
      · rw [e3]; exact lU
      · by_cases e4 : w = .laysStatic Bundle.tN "SUPPRESSED_SENTINEL" Bundle.listD
        · rw [e4]; exact lN
        · exact h1 w (List.mem_filter.mpr ⟨hw, by unfold vx_no; rw [decide_eq_true e1, decide_eq_true e2, decide_eq_true e3, decide_eq_true e4]; rfl⟩)
/-- where a static field lies, its class's statics cell in H -/
def vx_L (C n d : String) (A : Nat → Prop) (U : State) (H : Heap) : Prop := ∃ (c : ClassId) (k : Class) (i : Nat) (f : Field) (a : Nat) (cell : Cell), U.vm.findClass C = some c ∧ U.fieldFound? C n d = some (c, k, i, f) ∧ f.isStatic = true ∧ k.statics = some a ∧ H[a]? = some cell ∧ cell.vm.isStatics = true ∧ cell.cls = c ∧ f.slot < cell.slots.size ∧ k.staticTypes[f.slot]? = some f.type ∧ ¬ A a
theorem vx_L.moved {C n d : String} {A : Nat → Prop} {u U : State} {H : Heap} (hvm : u.vm.Alike U.vm) (h : vx_L C n d A u H) : vx_L C n d A U H := by
  obtain ⟨c, k, i, f, a, cell, h1, h2, h3, h4, h5, h6, h7, h8, h9, h10⟩ := h
  obtain ⟨k', hi', he⟩ := State.fieldFound?_setVm hvm h2
  exact ⟨c, k', i, f, a, cell, by rw [hvm.findClass]; exact h1, hi', h3, by rw [he]; exact h4, h5, h6, h7, h8, by rw [he]; exact h9, h10⟩
theorem vx_L.kept {C n d : String} {A : Nat → Prop} {U : State} {H H1 : Heap} (h : vx_L C n d A U H) (hq : ∀ a : Nat, a < H.size → ¬ A a → H1[a]? = H[a]?) : vx_L C n d A U H1 := by
  obtain ⟨c, k, i, f, a, cell, h1, h2, h3, h4, h5, h6, h7, h8, h9, h10⟩ := h
  exact ⟨c, k, i, f, a, cell, h1, h2, h3, h4, by rw [hq a (Array.getElem?_eq_some_iff.mp h5).1 h10]; exact h5, h6, h7, h8, h9, h10⟩
theorem vx_L.narrow {C n d : String} {A B : Nat → Prop} {U : State} {H : Heap} (h : vx_L C n d A U H) (hAB : ∀ q, B q → A q) : vx_L C n d B U H := by
  obtain ⟨c, k, i, f, a, cell, h1, h2, h3, h4, h5, h6, h7, h8, h9, h10⟩ := h
  exact ⟨c, k, i, f, a, cell, h1, h2, h3, h4, h5, h6, h7, h8, h9, fun z => h10 (hAB _ z)⟩
theorem vx_L.word {C n d : String} {A : Nat → Prop} {s : State} {args : Array Value} (h : vx_L C n d A s s.heap) : (Cond.laysStatic C n d).before args s = true := by
  obtain ⟨c, k, i, f, a, cell, h1, h2, h3, h4, h5, h6, h7, h8, h9, -⟩ := h
  show (Cond.laysStatic C n d).holds args s none s [] = true
  exact Cond.laysStatic_of h1 h2 h3 h4 h5 h6 h7 h8 h9
/-- .. and what it holds: null or some reference -/
def vx_Zq (C n d : String) (A : Nat → Prop) (U : State) (H : Heap) : Prop := va_Zq C n d A U H ∧ vx_L C n d A U H
theorem vx_Zq.moved {C n d : String} {A : Nat → Prop} {u U : State} {H : Heap} (hvm : u.vm.Alike U.vm) (h : vx_Zq C n d A u H) : vx_Zq C n d A U H := ⟨va_Zq.moved hvm h.1, vx_L.moved hvm h.2⟩
theorem vx_Zq.kept {C n d : String} {A : Nat → Prop} {U : State} {H H1 : Heap} (h : vx_Zq C n d A U H) (hq : ∀ a : Nat, a < H.size → ¬ A a → H1[a]? = H[a]?) : vx_Zq C n d A U H1 := ⟨va_Zq.kept h.1 hq, vx_L.kept h.2 hq⟩
theorem vx_Zq.narrow {C n d : String} {A B : Nat → Prop} {U : State} {H : Heap} (h : vx_Zq C n d A U H) (hAB : ∀ q, B q → A q) : vx_Zq C n d B U H := ⟨va_Zq.narrow h.1 hAB, vx_L.narrow h.2 hAB⟩
theorem vx_Zqof {args : Array Value} {s : State} {C n d : String} {A : Nat → Prop} (hl : (Cond.laysStatic C n d).before args s = true) (hini : (Cond.initialized C).before args s = true) (h : (Cond.isRef (.static C n d)).before args s = true) (hA : ∀ a : Nat, a < s.heap.size → ¬ A a) : vx_Zq C n d A s s.heap := by
  refine ⟨va_Zqof hl hini h hA, ?_⟩
  obtain ⟨c, k, i, f, a, cell, h1, h2, h3, h4, h5, h6, h7, h8, h9⟩ := Cond.laysStatic_spec hl
  exact ⟨c, k, i, f, a, cell, h1, h2, h3, h4, h5, h6, h7, h8, h9, hA a (Array.getElem?_eq_some_iff.mp h5).1⟩
theorem vx_isRef {C n d : String} {v : Value} {A : Nat → Prop} {s : State} {args : Array Value} (h : va_Z C n d v A s s.heap) (hv : v.isRef = true) : (Cond.isRef (.static C n d)).before args s = true := by
  obtain ⟨cf, kf, fi, f, a, cell, h1, h2, h3, h4, h5, h6, h7, -⟩ := h
  have he : (Term.static C n d).eval args s none [] s = some v := by
    simp [Term.eval, State.fieldNamed?, h1, h2, h4, h5, h6, h7]
  simp only [Cond.before, Cond.holds, Cond.value, he]
  cases v <;> simp_all [Value.isRef]
theorem vx_isRefq {C n d : String} {A : Nat → Prop} {s : State} {args : Array Value} (h : va_Zq C n d A s s.heap) : (Cond.isRef (.static C n d)).before args s = true := by
  rcases h with h | ⟨t, h⟩
  · exact vx_isRef h rfl
  · exact vx_isRef h rfl
/-- the same frame, seen from here: as if the method were called anew in this heap -/
theorem vx_rebase {T : State} (X : Stand p l e R s m args below meth c T locs cells slots) {R' : Room} (hf : R'.frames ≤ R.frames) (hl : R'.locals ≤ R.locals) (hc : cells + R'.cells ≤ R.cells) (hs : slots + R'.slots ≤ R.slots) :
    Stand p l e R' ((T.setVm s.vm).setFrames (.invoking m args :: below)) m args below meth c T [] 0 0 := by
  have htop : (T.setVm s.vm).topJava?.isSome := X.here.top
  have hF : ((T.setVm s.vm).setFrames (.invoking m args :: below)).frames = .invoking m args :: below := State.frames_setFrames _ (State.cur_lt_of_top htop)
  obtain ⟨g₀, hg0⟩ := Option.isSome_iff_exists.mp htop
  obtain ⟨r, hr⟩ := State.topJava?_eq_some.mp hg0
  have hl9 : e.platform.stackLimits (T.setVm s.vm).me = e.platform.stackLimits s.me := X.limits
  have hb9 : (T.setVm s.vm).me.stackBytes = s.me.stackBytes := X.bytes
  refine ⟨X.admits, X.cas, X.clock, hF, ?_, X.hears, X.method, X.code, X.here, X.tail, X.warmed, ?_, ?_, ?_⟩
  · have h := X.room
    have hU : ((T.setVm s.vm).setFrames (.invoking m args :: below)).localsInUse = s.localsInUse := by
      rw [State.localsInUse_invoking hF (meth := meth) (c := c) X.method X.code, State.localsInUse_invoking X.frames X.method X.code]
    simp only [State.hasRoom, Bool.and_eq_true, decide_eq_true_eq] at h ⊢
    obtain ⟨⟨⟨⟨h1, h2, h3, h4, h5, h6⟩, h7⟩, h8⟩, h9⟩ := h
    rw [X.frames, List.length_cons] at h2 h3
    have q1 := X.heapSize
    have q2 := X.used
    simp only [hF, hU, List.length_cons, State.stackLimits_setFrames, State.stackBytes_setFrames, hl9, hb9]
    refine ⟨⟨⟨⟨by omega, by omega, by omega, by omega, by omega, h6⟩, ?_⟩, ?_⟩, X.book⟩
    · show T.heap.size + R'.cells ≤ e.platform.maxCells
      omega
    · show T.slotsUsed + R'.slots ≤ e.platform.maxSlots
      omega
  · rw [State.stackLimits_setFrames]; rfl
  · rw [State.stackBytes_setFrames]; rfl
  · refine ⟨?_, Nat.le_refl _, Nat.le_refl _, ?_, ?_, fun a c9 h9 => ⟨c9, h9, rfl, rfl, fun _ _ => rfl⟩⟩
    · obtain ⟨t, ht, -⟩ := State.frames_cons hr
      show T.setVm s.vm = { ((T.setVm s.vm).setFrames (.invoking m args :: below)).setFrames (T.setVm s.vm).frames with heap := T.heap, slotsUsed := T.slotsUsed }
      rw [State.setFrames_setFrames, State.setFrames_self ht]
      rfl
    · show T.slotsUsed = T.slotsUsed + ((T.heap.toList.drop T.heap.size).map (·.slots.size)).sum
      rw [List.drop_eq_nil_of_le (Nat.le_of_eq Array.length_toList)]
      rfl
    · show ((T.heap.toList.drop T.heap.size).map (·.slots.size)).sum ≤ 0
      rw [List.drop_eq_nil_of_le (Nat.le_of_eq Array.length_toList)]
      exact Nat.le_refl _
/-- 'throw new E()': new; dup; invokespecial; athrow -/
theorem vx_throw0 {cc : ByteArray} {pc : Nat} (hexec : p.tables.exec = Jvm.exec) (hb : c.code = cc) (hl : l.stackTraces = false) {own cls : String} {names : List String} {ik ic mc ms : Nat} {A : Nat → Prop}
    (hown : s.vm.findClass own = some m.cls) (hcls : Bundle.fit cls = true) (hnames : ∀ n ∈ names, Bundle.fit n = true)
    (hk : (Cond.classLink own ik cls).before args s = true) (hini : (Cond.initialized cls).before args s = true) (hat : ∀ w ∈ vx_at0 own ic cls names, w.before args s = true)
    (hgood : ∀ w ∈ Cond.classLink own ik cls :: Cond.initialized cls :: vx_at0 own ic cls names, vx_ot w = true)
    (hU : vx_Zq Bundle.tN "UNASSIGNED_STACK" Bundle.steD A s s.heap) (hN : vx_Zq Bundle.tN "SUPPRESSED_SENTINEL" Bundle.listD A s s.heap) (hS : va_S A s.heap H locs) (hsize : ls.size = c.maxLocals)
    (d0 : decode cc pc = .ok (.new ik, 3)) (d3 : decode cc (pc + 3) = .ok (.dup, 1)) (d4 : decode cc (pc + 4) = .ok (.invokespecial ic, 3)) (d7 : decode cc (pc + 7) = .ok (.athrow, 1))
    (hout : ∀ x ∈ c.exceptionTable.toList, covers x (pc + 7) = false)
    (hRframes : names.length + 3 < R.frames) (hRlocals : (rest.map fun v => v.category).sum + (13 * (names.length + 1) + 42) ≤ R.locals) (hRcells : cells + 1 ≤ R.cells) (hRslots : slots + 6 ≤ R.slots) (hlocks : meth.locks = false)
    (hx : ∀ t : State, s.vm.Alike t.vm → H.size ≤ t.heap.size → (∀ q : Nat, q < H.size → t.heap[q]? = H[q]?) → XC cls s t)
    (hf : ∀ z ∈ locs, free z.base) (hc : cells + 1 ≤ mc) (hs : slots + 6 ≤ ms) :
    W p l e R s m args below meth c H locs cells slots (vx_MQ below Qc XC args s mc ms free) (F0 m pc ls rest) := by
  intro T hT X
  have htr : e.platform.stackTraces = false := (show e.platform.stackTraces = l.stackTraces by rw [X.admits.platform]).trans hl
  have Y := vx_rebase X (R' := { frames := R.frames, locals := R.locals, cells := 1, slots := 6 }) (Nat.le_refl _) (Nat.le_refl _) hRcells hRslots
  obtain ⟨s', hA⟩ : ∃ z, z = (T.setVm s.vm).setFrames (.invoking m args :: below) := ⟨_, rfl⟩
  rw [← hA] at Y
  have hvm : s'.vm = s.vm := by rw [hA]; rfl
  have hhp : s'.heap = H := by rw [hA]; exact hT
  have hW0 : s.WarmedH s'.vm := by rw [hvm]; exact State.WarmedH.refl s
  have hat' : ∀ w ∈ vx_at0 own ic cls names, w.before args s' = true := fun w hw => vx_ot_at hW0 hvm.symm (hgood w (List.mem_cons_of_mem _ (List.mem_cons_of_mem _ hw))) (hat w hw)
  have hk' : (Cond.classLink own ik cls).before args s' = true := vx_ot_at hW0 hvm.symm (hgood _ List.mem_cons_self) hk
  have hini' : (Cond.initialized cls).before args s' = true := vx_ot_at hW0 hvm.symm (hgood _ (List.mem_cons_of_mem _ List.mem_cons_self)) hini
  have hU' : vx_Zq Bundle.tN "UNASSIGNED_STACK" Bundle.steD A s' s'.heap := by rw [hhp]; exact vx_Zq.moved hW0.alike (hU.kept hS.2.1)
  have hN' : vx_Zq Bundle.tN "SUPPRESSED_SENTINEL" Bundle.listD A s' s'.heap := by rw [hhp]; exact vx_Zq.moved hW0.alike (hN.kept hS.2.1)
  have h : ∀ w ∈ Bundle.ownAtoms0 own ic cls names, w.before args s' = true := vx_own hat' (vx_isRefq hU'.1) (vx_isRefq hN'.1) hU'.2.word hN'.2.word
  have hown' : s'.vm.findClass own = some m.cls := by rw [hvm]; exact hown
  have hins : (Cond.instantiable cls 6).before args s' = true := h _ (by simp [Bundle.ownAtoms0])
  obtain ⟨vm₁, cX, kX, hfX, hkX, -, -, X₁, st1⟩ := Y.newCold hexec (own := own) (C := cls) (index := ik) (n := 6) hown' hk' hins hini'
    (g := F0 m pc ls rest) rfl (by rw [hb]; exact d0) (Nat.le_refl _) (Nat.le_refl _)
  generalize hT1 : (T.setVm vm₁).pushCell { cls := cX, slots := kX.instanceTypes.map defaultValue, vm := .none } = T1 at X₁ st1
  have hcat : (Value.ref T.heap.size).category = 1 := rfl
  have hcellA : T1.heap[T.heap.size]? = some (freshCell cX kX) := by rw [← hT1]; exact State.heap_pushCell_size _ _
  have d3' : decode c.code (pc + 3) = .ok (.dup, 1) := by rw [hb]; exact d3
  obtain ⟨U, hsteps, hrun, hend, hW, hsame, ce, hce, hO⟩ := X₁.ctorThrow0 hexec htr (own := own) (cls := cls) (names := names) (ic := ic) hown' hcls hnames h (fun x hx => nomatch hx) hfX hkX hcellA (by rw [hhp, hT]; exact Nat.le_refl _)
    (g := { method := m, pc := pc + 4, locals := ls, stack := .ref T.heap.size :: .ref T.heap.size :: rest, locked := none }) rfl hsize rfl rfl (rest := rest) rfl
    (by rw [hb]; exact d4) (by rw [hb]; exact d7) hout hRframes (by simp only [List.map_cons, List.sum_cons, hcat]; omega) hlocks
  obtain ⟨f1, f2⟩ := vx_frame hsame
  rw [hhp] at f1 f2
  have hWs : s.WarmedH U.vm := State.WarmedH.trans hW0 hW
  have hcl : s.vm.findClass cls = some ce.cls := by
    have h9 := hO.cls
    rw [hvm] at h9
    exact h9
  have hall : s.sameButNew ({ U with vm := s.vm } : State) locs mc ms := by
    subst hA
    obtain ⟨e1, e2⟩ := hsame
    rw [State.setFrames_setFrames] at e1
    have h2 : (T.setVm s.vm).sameButNew ({ U with vm := s.vm } : State) [] (0 + 1) (0 + 6) := ⟨e1, e2⟩
    have h3 := X.same.trans h2
    rw [List.append_nil] at h3
    exact h3.mono hc hs
  refine ⟨U, ?_, .threw T.heap.size, hrun, hend, Or.inr ⟨T.heap.size, rfl, cls, ce, locs, hx U hWs.alike f1 (fun q hq => f2 q hq (fun z hz => nomatch hz)), hce, hO.vm, hcl, hWs, hall, hf⟩⟩
  refine st1 _ ?_
  show Steps p.tables e below (T1.setTop { method := m, pc := pc + 3, locals := ls, stack := .ref T.heap.size :: rest, locked := none }) _
  jvm_step X₁.here [X₁.here.top, hexec, d3', Value.category]
  exact hsteps
/-- 'throw new E("text")': new; dup; ldc; invokespecial; athrow -/
theorem vx_throwS {cc : ByteArray} {pc : Nat} (hexec : p.tables.exec = Jvm.exec) (hb : c.code = cc) (hl : l.stackTraces = false) {own cls text : String} {names : List String} {ik is ic mc ms sa : Nat} {A : Nat → Prop}
    (hown : s.vm.findClass own = some m.cls) (hcls : Bundle.fit cls = true) (hnames : ∀ n ∈ names, Bundle.fit n = true)
    (hk : (Cond.classLink own ik cls).before args s = true) (hini : (Cond.initialized cls).before args s = true) (hstr : vk_R own is text sa s) (hat : ∀ w ∈ vx_atS own ic cls names, w.before args s = true)
    (hgood : ∀ w ∈ Cond.classLink own ik cls :: Cond.initialized cls :: vx_atS own ic cls names, vx_ot w = true)
    (hU : vx_Zq Bundle.tN "UNASSIGNED_STACK" Bundle.steD A s s.heap) (hN : vx_Zq Bundle.tN "SUPPRESSED_SENTINEL" Bundle.listD A s s.heap) (hS : va_S A s.heap H locs) (hsize : ls.size = c.maxLocals)
    (d0 : decode cc pc = .ok (.new ik, 3)) (d3 : decode cc (pc + 3) = .ok (.dup, 1)) (d4 : decode cc (pc + 4) = .ok (.ldc is, 2)) (d6 : decode cc (pc + 6) = .ok (.invokespecial ic, 3)) (d9 : decode cc (pc + 9) = .ok (.athrow, 1))
    (hout : ∀ x ∈ c.exceptionTable.toList, covers x (pc + 9) = false)
    (hRframes : names.length + 3 < R.frames) (hRlocals : (rest.map fun v => v.category).sum + (13 * (names.length + 1) + 43) ≤ R.locals) (hRcells : cells + 1 ≤ R.cells) (hRslots : slots + 6 ≤ R.slots) (hlocks : meth.locks = false)
    (hx : ∀ t : State, s.vm.Alike t.vm → H.size ≤ t.heap.size → (∀ q : Nat, q < H.size → t.heap[q]? = H[q]?) → XC cls s t)
    (hf : ∀ z ∈ locs, free z.base) (hc : cells + 1 ≤ mc) (hs : slots + 6 ≤ ms) :
    W p l e R s m args below meth c H locs cells slots (vx_MQ below Qc XC args s mc ms free) (F0 m pc ls rest) := by
  intro T hT X
  have htr : e.platform.stackTraces = false := (show e.platform.stackTraces = l.stackTraces by rw [X.admits.platform]).trans hl
  have Y := vx_rebase X (R' := { frames := R.frames, locals := R.locals, cells := 1, slots := 6 }) (Nat.le_refl _) (Nat.le_refl _) hRcells hRslots
  obtain ⟨s', hA⟩ : ∃ z, z = (T.setVm s.vm).setFrames (.invoking m args :: below) := ⟨_, rfl⟩
  rw [← hA] at Y
  have hvm : s'.vm = s.vm := by rw [hA]; rfl
  have hhp : s'.heap = H := by rw [hA]; exact hT
  have hW0 : s.WarmedH s'.vm := by rw [hvm]; exact State.WarmedH.refl s
  have hat' : ∀ w ∈ vx_atS own ic cls names, w.before args s' = true := fun w hw => vx_ot_at hW0 hvm.symm (hgood w (List.mem_cons_of_mem _ (List.mem_cons_of_mem _ hw))) (hat w hw)
  have hk' : (Cond.classLink own ik cls).before args s' = true := vx_ot_at hW0 hvm.symm (hgood _ List.mem_cons_self) hk
  have hini' : (Cond.initialized cls).before args s' = true := vx_ot_at hW0 hvm.symm (hgood _ (List.mem_cons_of_mem _ List.mem_cons_self)) hini
  have hU' : vx_Zq Bundle.tN "UNASSIGNED_STACK" Bundle.steD A s' s'.heap := by rw [hhp]; exact vx_Zq.moved hW0.alike (hU.kept hS.2.1)
  have hN' : vx_Zq Bundle.tN "SUPPRESSED_SENTINEL" Bundle.listD A s' s'.heap := by rw [hhp]; exact vx_Zq.moved hW0.alike (hN.kept hS.2.1)
  have h : ∀ w ∈ Bundle.ownAtoms own ic cls names, w.before args s' = true := vx_own hat' (vx_isRefq hU'.1) (vx_isRefq hN'.1) hU'.2.word hN'.2.word
  have hown' : s'.vm.findClass own = some m.cls := by rw [hvm]; exact hown
  have hins : (Cond.instantiable cls 6).before args s' = true := h _ (by simp [Bundle.ownAtoms])
  obtain ⟨vm₁, cX, kX, hfX, hkX, -, -, X₁, st1⟩ := Y.newCold hexec (own := own) (C := cls) (index := ik) (n := 6) hown' hk' hins hini'
    (g := F0 m pc ls rest) rfl (by rw [hb]; exact d0) (Nat.le_refl _) (Nat.le_refl _)
  generalize hT1 : (T.setVm vm₁).pushCell { cls := cX, slots := kX.instanceTypes.map defaultValue, vm := .none } = T1 at X₁ st1
  have hcat : (Value.ref T.heap.size).category = 1 := rfl
  have hcellA : T1.heap[T.heap.size]? = some (freshCell cX kX) := by rw [← hT1]; exact State.heap_pushCell_size _ _
  have d3' : decode c.code (pc + 3) = .ok (.dup, 1) := by rw [hb]; exact d3
  have d4' : decode c.code (pc + 4) = .ok (.ldc is, 2) := by rw [hb]; exact d4
  have hstr' : vk_R own is text sa s' := vk_R.warm hW0 hstr
  obtain ⟨U, hsteps, hrun, hend, hW, hsame, ce, hce, hO⟩ := X₁.ctorThrowS hexec htr (own := own) (cls := cls) (names := names) (ic := ic) hown' hcls hnames h (fun x hx => nomatch hx) hfX hkX hcellA (by rw [hhp, hT]; exact Nat.le_refl _) (msg := .ref sa) rfl
    (g := { method := m, pc := pc + 6, locals := ls, stack := .ref sa :: .ref T.heap.size :: .ref T.heap.size :: rest, locked := none }) rfl hsize rfl rfl (rest := rest) rfl
    (by rw [hb]; exact d6) (by rw [hb]; exact d9) hout hRframes (by simp only [List.map_cons, List.sum_cons, hcat]; omega) hlocks
  obtain ⟨f1, f2⟩ := vx_frame hsame
  rw [hhp] at f1 f2
  have hWs : s.WarmedH U.vm := State.WarmedH.trans hW0 hW
  have hcl : s.vm.findClass cls = some ce.cls := by
    have h9 := hO.cls
    rw [hvm] at h9
    exact h9
  have hall : s.sameButNew ({ U with vm := s.vm } : State) locs mc ms := by
    subst hA
    obtain ⟨e1, e2⟩ := hsame
    rw [State.setFrames_setFrames] at e1
    have h2 : (T.setVm s.vm).sameButNew ({ U with vm := s.vm } : State) [] (0 + 1) (0 + 6) := ⟨e1, e2⟩
    have h3 := X.same.trans h2
    rw [List.append_nil] at h3
    exact h3.mono hc hs
  refine ⟨U, ?_, .threw T.heap.size, hrun, hend, Or.inr ⟨T.heap.size, rfl, cls, ce, locs, hx U hWs.alike f1 (fun q hq => f2 q hq (fun z hz => nomatch hz)), hce, hO.vm, hcl, hWs, hall, hf⟩⟩
  refine st1 _ ?_
  show Steps p.tables e below (T1.setTop { method := m, pc := pc + 3, locals := ls, stack := .ref T.heap.size :: rest, locked := none }) _
  jvm_step X₁.here [X₁.here.top, hexec, d3', Value.category]
  exact X₁.ldcString hexec (own := own) (text := text) (index := is) (a := sa) hown' hstr'.1 hstr'.2
    (g := { method := m, pc := pc + 4, locals := ls, stack := .ref T.heap.size :: .ref T.heap.size :: rest, locked := none }) rfl d4' _ hsteps
/-- 'throw new E("text")', the text by a wide index -/
theorem vx_throwSW {cc : ByteArray} {pc : Nat} (hexec : p.tables.exec = Jvm.exec) (hb : c.code = cc) (hl : l.stackTraces = false) {own cls text : String} {names : List String} {ik is ic mc ms sa : Nat} {A : Nat → Prop}
    (hown : s.vm.findClass own = some m.cls) (hcls : Bundle.fit cls = true) (hnames : ∀ n ∈ names, Bundle.fit n = true)
    (hk : (Cond.classLink own ik cls).before args s = true) (hini : (Cond.initialized cls).before args s = true) (hstr : vk_R own is text sa s) (hat : ∀ w ∈ vx_atS own ic cls names, w.before args s = true)
    (hgood : ∀ w ∈ Cond.classLink own ik cls :: Cond.initialized cls :: vx_atS own ic cls names, vx_ot w = true)
    (hU : vx_Zq Bundle.tN "UNASSIGNED_STACK" Bundle.steD A s s.heap) (hN : vx_Zq Bundle.tN "SUPPRESSED_SENTINEL" Bundle.listD A s s.heap) (hS : va_S A s.heap H locs) (hsize : ls.size = c.maxLocals)
    (d0 : decode cc pc = .ok (.new ik, 3)) (d3 : decode cc (pc + 3) = .ok (.dup, 1)) (d4 : decode cc (pc + 4) = .ok (.ldc_w is, 3)) (d7 : decode cc (pc + 7) = .ok (.invokespecial ic, 3)) (d10 : decode cc (pc + 10) = .ok (.athrow, 1))
    (hout : ∀ x ∈ c.exceptionTable.toList, covers x (pc + 10) = false)
    (hRframes : names.length + 3 < R.frames) (hRlocals : (rest.map fun v => v.category).sum + (13 * (names.length + 1) + 43) ≤ R.locals) (hRcells : cells + 1 ≤ R.cells) (hRslots : slots + 6 ≤ R.slots) (hlocks : meth.locks = false)
    (hx : ∀ t : State, s.vm.Alike t.vm → H.size ≤ t.heap.size → (∀ q : Nat, q < H.size → t.heap[q]? = H[q]?) → XC cls s t)
    (hf : ∀ z ∈ locs, free z.base) (hc : cells + 1 ≤ mc) (hs : slots + 6 ≤ ms) :
    W p l e R s m args below meth c H locs cells slots (vx_MQ below Qc XC args s mc ms free) (F0 m pc ls rest) := by
  intro T hT X
  have htr : e.platform.stackTraces = false := (show e.platform.stackTraces = l.stackTraces by rw [X.admits.platform]).trans hl
  have Y := vx_rebase X (R' := { frames := R.frames, locals := R.locals, cells := 1, slots := 6 }) (Nat.le_refl _) (Nat.le_refl _) hRcells hRslots
  obtain ⟨s', hA⟩ : ∃ z, z = (T.setVm s.vm).setFrames (.invoking m args :: below) := ⟨_, rfl⟩
  rw [← hA] at Y
  have hvm : s'.vm = s.vm := by rw [hA]; rfl
  have hhp : s'.heap = H := by rw [hA]; exact hT
  have hW0 : s.WarmedH s'.vm := by rw [hvm]; exact State.WarmedH.refl s
  have hat' : ∀ w ∈ vx_atS own ic cls names, w.before args s' = true := fun w hw => vx_ot_at hW0 hvm.symm (hgood w (List.mem_cons_of_mem _ (List.mem_cons_of_mem _ hw))) (hat w hw)
  have hk' : (Cond.classLink own ik cls).before args s' = true := vx_ot_at hW0 hvm.symm (hgood _ List.mem_cons_self) hk
  have hini' : (Cond.initialized cls).before args s' = true := vx_ot_at hW0 hvm.symm (hgood _ (List.mem_cons_of_mem _ List.mem_cons_self)) hini
  have hU' : vx_Zq Bundle.tN "UNASSIGNED_STACK" Bundle.steD A s' s'.heap := by rw [hhp]; exact vx_Zq.moved hW0.alike (hU.kept hS.2.1)
  have hN' : vx_Zq Bundle.tN "SUPPRESSED_SENTINEL" Bundle.listD A s' s'.heap := by rw [hhp]; exact vx_Zq.moved hW0.alike (hN.kept hS.2.1)
  have h : ∀ w ∈ Bundle.ownAtoms own ic cls names, w.before args s' = true := vx_own hat' (vx_isRefq hU'.1) (vx_isRefq hN'.1) hU'.2.word hN'.2.word
  have hown' : s'.vm.findClass own = some m.cls := by rw [hvm]; exact hown
  have hins : (Cond.instantiable cls 6).before args s' = true := h _ (by simp [Bundle.ownAtoms])
  obtain ⟨vm₁, cX, kX, hfX, hkX, -, -, X₁, st1⟩ := Y.newCold hexec (own := own) (C := cls) (index := ik) (n := 6) hown' hk' hins hini'
    (g := F0 m pc ls rest) rfl (by rw [hb]; exact d0) (Nat.le_refl _) (Nat.le_refl _)
  generalize hT1 : (T.setVm vm₁).pushCell { cls := cX, slots := kX.instanceTypes.map defaultValue, vm := .none } = T1 at X₁ st1
  have hcat : (Value.ref T.heap.size).category = 1 := rfl
  have hcellA : T1.heap[T.heap.size]? = some (freshCell cX kX) := by rw [← hT1]; exact State.heap_pushCell_size _ _
  have d3' : decode c.code (pc + 3) = .ok (.dup, 1) := by rw [hb]; exact d3
  have d4' : decode c.code (pc + 4) = .ok (.ldc_w is, 3) := by rw [hb]; exact d4
  have hstr' : vk_R own is text sa s' := vk_R.warm hW0 hstr
  obtain ⟨U, hsteps, hrun, hend, hW, hsame, ce, hce, hO⟩ := X₁.ctorThrowS hexec htr (own := own) (cls := cls) (names := names) (ic := ic) hown' hcls hnames h (fun x hx => nomatch hx) hfX hkX hcellA (by rw [hhp, hT]; exact Nat.le_refl _) (msg := .ref sa) rfl
    (g := { method := m, pc := pc + 7, locals := ls, stack := .ref sa :: .ref T.heap.size :: .ref T.heap.size :: rest, locked := none }) rfl hsize rfl rfl (rest := rest) rfl
    (by rw [hb]; exact d7) (by rw [hb]; exact d10) hout hRframes (by simp only [List.map_cons, List.sum_cons, hcat]; omega) hlocks
  obtain ⟨f1, f2⟩ := vx_frame hsame
  rw [hhp] at f1 f2
  have hWs : s.WarmedH U.vm := State.WarmedH.trans hW0 hW
  have hcl : s.vm.findClass cls = some ce.cls := by
    have h9 := hO.cls
    rw [hvm] at h9
    exact h9
  have hall : s.sameButNew ({ U with vm := s.vm } : State) locs mc ms := by
    subst hA
    obtain ⟨e1, e2⟩ := hsame
    rw [State.setFrames_setFrames] at e1
    have h2 : (T.setVm s.vm).sameButNew ({ U with vm := s.vm } : State) [] (0 + 1) (0 + 6) := ⟨e1, e2⟩
    have h3 := X.same.trans h2
    rw [List.append_nil] at h3
    exact h3.mono hc hs
  refine ⟨U, ?_, .threw T.heap.size, hrun, hend, Or.inr ⟨T.heap.size, rfl, cls, ce, locs, hx U hWs.alike f1 (fun q hq => f2 q hq (fun z hz => nomatch hz)), hce, hO.vm, hcl, hWs, hall, hf⟩⟩
  refine st1 _ ?_
  show Steps p.tables e below (T1.setTop { method := m, pc := pc + 3, locals := ls, stack := .ref T.heap.size :: rest, locked := none }) _
  jvm_step X₁.here [X₁.here.top, hexec, d3', Value.category]
  exact X₁.ldcStringW hexec (own := own) (text := text) (index := is) (a := sa) hown' hstr'.1 hstr'.2
    (g := { method := m, pc := pc + 4, locals := ls, stack := .ref T.heap.size :: .ref T.heap.size :: rest, locked := none }) rfl d4' _ hsteps
end Ends
section Bodies
variable {l : Launch}
theorem vx_ofW {y : MethodName} {ws ws' : List Cond} {rm : Room} {Pc : Array Value → State → Prop} {Qc : Array Value → State → Outcome → State → Prop} {XC : String → State → State → Prop} {mc ms : Nat} {free : Addr → Prop} {cc : ByteArray} {maxL : Nat} {ret : Option FieldType}
    (hy : plainName y.cls = true) (hw : ws = Cond.code y cc maxL ret :: ws')
    (body : ∀ p e s m args below meth c s₁, BodyLoose p l y (headSpec ws rm) cc maxL ret e s m args below meth c s₁ → c.maxLocals = maxL → (∀ x ∈ c.exceptionTable.toList, False) → Pc args s →
      W p l e (headSpec ws rm).room s m args below meth c s.heap [] 0 0 (vx_MQ below Qc XC args s mc ms free) (entryFrame m args maxL)) : vx_Met l y ws rm Pc Qc XC mc ms free := by
  refine MetFree.of_bodyS (code := cc) (maxLocals := maxL) (ret := ret) hy ?_ ?_
  · intro args s m h hn
    obtain ⟨meth, c, h1, h2, h3, h4, h5, h6, -, -⟩ := Cond.code_spec hn (atoms_spec (ws := ws) h _ (by rw [hw]; exact List.mem_cons_self))
    exact ⟨meth, c, h1, h2, h3, h4, h5, h6⟩
  · intro p e s m args below meth c s₁ B hml hP _
    have hh0 : s₁.heap = s.heap := by rw [B.state]; rfl
    have ht : ∀ x ∈ c.exceptionTable.toList, False := by
      obtain ⟨meth9, c9, h1, h2, -, -, -, -, h7, -⟩ := Cond.code_spec B.named (atoms_spec (ws := ws) B.pre _ (by rw [hw]; exact List.mem_cons_self))
      cases Option.some.inj (h1.symm.trans B.method)
      cases Option.some.inj (h2.symm.trans (Stand.of_body B).code)
      intro x hx
      rw [Array.isEmpty_iff.mp h7] at hx
      cases hx
    obtain ⟨t, a1, o, b1, b2, b3⟩ := body p e s m args below meth c s₁ B hml ht hP s₁ hh0 (Stand.of_body B)
    exact ⟨t, o, a1, b1, b2, b3⟩
/-- the table of a body with handlers -/
theorem vx_table {p : Program} {x y : MethodName} {S : Spec} {cc bytes : ByteArray} {maxL maxL' : Nat} {ret ret' : Option FieldType} {e : Env} {s s₁ : State} {m : MethodId} {args : Array Value} {below : List Frame} {meth : Method} {c : Code} {hh : List (Nat × Nat × Nat × Nat)}
    (B : BodyLoose p l y S cc maxL ret e s m args below meth c s₁) (h : (Cond.codeWith y bytes maxL' ret' hh).before args s = true) : c.exceptionTable.toList = tableOf hh := by
  obtain ⟨m9, meth9, c9, hn9, h1, h2, -, -, h6, -⟩ := Cond.codeWith_spec h
  cases Option.some.inj (hn9.symm.trans B.named)
  cases Option.some.inj (h1.symm.trans B.method)
  cases Option.some.inj (h2.symm.trans (Stand.of_body B).code)
  rw [← h6, table_eq]
end Bodies
end VXA
/-! ===== END ===== -/
/-! ===== BEGIN a static call of a method with an exception table ===== -/
section VXS
variable {p : Program} {l : Launch} {e : Env} {R : Room} {s : State} {m : MethodId} {args : Array Value} {below : List Frame} {meth : Method} {c : Code} {T : State} {H : Heap} {locs : List Loc} {cells slots : Nat}
abbrev vx_CSW (R : Room) (s : State) (args : Array Value) (own : String) (index : Nat) (y : MethodName) (bytes : ByteArray) (maxL : Nat) (ret : Option FieldType) (hh : List (Nat × Nat × Nat × Nat)) (ws : List Cond) (rm : Room) (mc ms n : Nat) : Prop :=
  (rm.cells = mc ∧ rm.slots = ms ∧ rm.frames + 1 ≤ R.frames ∧ 8 + (maxL + 11) + rm.locals ≤ R.locals ∧ (∀ w ∈ ws, ∀ (a' : Array Value) (U : State), s.WarmedH U.vm → w.before a' U = true) ∧ Cond.codeWith y bytes maxL ret hh ∈ ws) ∧
  (Cond.codeWith y bytes maxL ret hh).before args s = true ∧ (Cond.initialized y.cls).before args s = true ∧ (y.cls ≠ "java/lang/invoke/MethodHandle" ∧ y.cls ≠ "java/lang/invoke/VarHandle") ∧
  (∀ sig, parseMethodDescriptor y.desc = some sig → n = sig.parameters.length) ∧ (Cond.methodLink own index y).before args s = true ∧ (Cond.static y).before args s = true
theorem vx_cwSW {own : String} {index maxL mc ms : Nat} {y : MethodName} {bytes : ByteArray} {ret : Option FieldType} {hh : List (Nat × Nat × Nat × Nat)} {Ts ws ws' : List Cond} {rm : Room} (n : Nat) (ht : ∀ w ∈ Ts, w.before args s = true) (hT : GoodIn Ts (va_wsS own index y ws)) (hw : ws = Cond.codeWith y bytes maxL ret hh :: ws') (hrc : rm.cells = mc) (hrs : rm.slots = ms)
    (hd : y.cls ≠ "java/lang/invoke/MethodHandle" ∧ y.cls ≠ "java/lang/invoke/VarHandle" ∧ (parseMethodDescriptor y.desc).map (fun d => d.parameters.length) = some n) (hR : rm.frames + 1 ≤ R.frames ∧ 8 + (maxL + 11) + rm.locals ≤ R.locals) :
    vx_CSW R s args own index y bytes maxL ret hh ws rm mc ms n := by
  have ok : ∀ w ∈ va_wsS own index y ws, w.before args s = true := fun w h => ht w (hT w h).1
  have hG : GoodIn Ts ws := fun w h => hT w (by unfold va_wsS; exact List.mem_append_right _ h)
  have hc : Cond.codeWith y bytes maxL ret hh ∈ ws := by rw [hw]; exact List.mem_cons_self
  refine ⟨⟨hrc, hrs, hR.1, hR.2, pay_in ht hG, hc⟩, ht _ (hG _ hc).1, ok _ (by simp [va_wsS]), ⟨hd.1, hd.2.1⟩, fun sig h => ?_, ok _ (by simp [va_wsS]), ok _ (by simp [va_wsS])⟩
  have h2 := hd.2.2
  rw [h] at h2
  exact (Option.some.inj h2).symm
theorem vx_callSW (X : Stand p l e R s m args below meth c T locs cells slots) (hexec : p.tables.exec = Jvm.exec) {own : String} {index : Nat} {y : MethodName} {bytes : ByteArray} {maxL : Nat} {ret : Option FieldType} {hh : List (Nat × Nat × Nat × Nat)}
    (hown : s.vm.findClass own = some m.cls) (hlink : (Cond.methodLink own index y).before args s = true) (hstat : (Cond.static y).before args s = true) (hinit : (Cond.initialized y.cls).before args s = true)
    (hcode : (Cond.codeWith y bytes maxL ret hh).before args s = true) (hy : y.cls ≠ "java/lang/invoke/MethodHandle" ∧ y.cls ≠ "java/lang/invoke/VarHandle")
    {W9 : Nat} {Pre : Pt → Array Value → Prop} {Post : Pt → Array Value → Option Value → Pt → Prop} (hK : Back l R p e below s args y 3 W9 Pre Post)
    {g : JFrame} (hg : g.method = m) (hsize : g.locals.size = c.maxLocals) {argsL rest : List Value} (hlen : ∀ sig, parseMethodDescriptor y.desc = some sig → argsL.length = sig.parameters.length)
    (hstack : g.stack = argsL.reverse ++ rest) (hW : 2 * g.monitorRoom + (rest.map fun v => v.category).sum ≤ W9) (hdg : decode c.code g.pc = .ok (.invokestatic index, 3))
    (hpre : ∀ vm₁, s.WarmedH vm₁ → Pre ⟨T.setVm vm₁, locs, cells, slots⟩ argsL.toArray) :
    ∃ (v : Option Value) (vm₁ : Vm) (B : Pt), s.WarmedH vm₁ ∧ Stand p l e R s m args below meth c B.U B.locs B.cells B.slots ∧ Post ⟨T.setVm vm₁, locs, cells, slots⟩ argsL.toArray v B ∧
      ∀ target, Steps p.tables e below (B.U.setTop { g with pc := g.pc + 3, stack := v.toList ++ rest }) target → Steps p.tables e below (T.setTop g) target := by
  obtain ⟨mk, methM, cM, hnamed, hmethM, -, -, -, -, -, -, hsigM⟩ := Cond.codeWith_spec hcode
  have hstatic : methM.isStatic = true := Cond.static_spec hnamed hmethM hstat
  obtain ⟨kP, hkP, -⟩ := className_of_methodNamed hnamed
  have hinitP : kP.init = .initialized := Cond.initialized_spec (findClass_of_methodNamed hnamed) hkP hinit
  obtain ⟨vm₁, X₁, hstep₁⟩ := X.invokestatic hexec hown hlink hnamed hmethM hstatic hkP hinitP hy (g := g) hg (argsL := argsL) (rest := rest) (hlen _ hsigM) hstack hdg
  obtain ⟨v, B, X', hpost, hsteps⟩ := hK m meth c ⟨T.setVm vm₁, locs, cells, slots⟩ { g with stack := rest } (.invokestatic index) mk argsL.toArray X₁ hg hsize hdg hW (X₁.named hnamed) (hpre vm₁ X₁.warmed)
  exact ⟨v, vm₁, B, X₁.warmed, X', hpost, fun target h => hstep₁ _ fun acts => by rw [doInvoke_state]; exact hsteps.trans h⟩
theorem vx_runSW {y : MethodName} {bytes cc : ByteArray} {maxL nL mc ms n index : Nat} {ret : Option FieldType} {hh : List (Nat × Nat × Nat × Nat)} {ws : List Cond} {rm : Room} {Pc : Array Value → State → Prop} {Qc : Array Value → State → Outcome → State → Prop} {free : Addr → Prop} {Ts : List Cond} {own : String} {As rest : List Value} {g : JFrame}
    (S : CallFix p m c cc nL s args Ts own) (hM : Met l y ws rm Pc Qc mc ms free) (cw : vx_CSW R s args own index y bytes maxL ret hh ws rm mc ms n) (hp : PreS s H Pc As)
    (hg : g.method = m) (hn : As.length = n) (hsize : g.locals.size = nL) (hstack : g.stack = As.reverse ++ rest) (hW : 2 * g.monitorRoom + (rest.map fun v => v.category).sum ≤ 8) (hdg : decode cc g.pc = .ok (.invokestatic index, 3)) (hf : cells + mc ≤ R.cells ∧ slots + ms ≤ R.slots) :
    va_Run p l e R s m args below meth c H locs cells slots mc ms g rest (Qc As.toArray) (free) := by
  obtain ⟨⟨hrc, hrs, hfr, hlo, hws, hcw⟩, hcode, hini, hy, hlen, hl, hstt⟩ := cw
  have hK : Back l R p e below s args y 3 8 (PreOf R mc ms Pc) (PostOf Qc mc ms free) := va_backW (hh := hh) (bytes := bytes) (maxL := maxL) (ret := ret) hM hp.1 hrc hrs hfr hlo hws hcw (fun a' U hW => word_at hW (Or.inl (by first | rfl | simp [Cond.onTables, Cond.keeps, Cond.steady])) hini)
  obtain ⟨hx, hb, hml, ho, -⟩ := S
  intro T hT X
  obtain ⟨v, vm₁, ⟨U', l2, c2, s2⟩, hW₁, X', ⟨g', mk, t, L, e1, e2, hq, h1, hL, h2, h3⟩, st⟩ := vx_callSW X hx (hh := hh) (bytes := bytes) (maxL := maxL) (ret := ret) ho hl hstt hini hcode hy hK hg (hsize.trans hml.symm) (argsL := As) (rest := rest) (fun sig h => hn.trans (hlen sig h)) hstack hW (by rw [hb]; exact hdg)
    (fun vm₁ hW₁ => ⟨hf.1, hf.2, hp.2 (T.setVm vm₁) hT hW₁⟩)
  dsimp only [Pt.U, Pt.locs, Pt.cells, Pt.slots] at X' e1 e2 h1 h2 h3 st
  subst h1; subst h2; subst h3
  exact ⟨v, (T.setVm vm₁).calling g' mk As.toArray, t, U', L, hT, X', hL, e1, e2, hq, st⟩
/-- not caught here, past rows that name other classes: it goes on to the caller -/
theorem vx_outP {p : Program} {l : Launch} {e : Env} {R : Room} {s : State} {m : MethodId} {args : Array Value} {below : List Frame} {meth : Method} {c : Code} {H : Heap} {locs : List Loc} {cells slots : Nat} {free : Addr → Prop} {ls : Array Slot} {rest : List Value} {Qc : Array Value → State → Outcome → State → Prop} {XC : String → State → State → Prop}
    {pc : Nat} {own E : String} {ce : Cell} {q : Addr} {mc ms : Nat} (hown : s.vm.findClass own = some m.cls) (hlocks : meth.locks = false)
    (hpass : ∀ z ∈ c.exceptionTable.toList, covers z pc = false ∨ (z.catchType ≠ 0 ∧ ∃ nm : String, (Cond.classLink own z.catchType nm).before args s = true ∧ va_Nc E nm s)) (hcell : H[q]? = some ce) (hv : ce.vm = .none) (hcl : s.vm.findClass E = some ce.cls)
    (hx : ∀ t : State, t.heap = H → s.vm.Alike t.vm → XC E s t) (hf : ∀ z ∈ locs, free z.base) (hc : cells ≤ mc) (hs : slots ≤ ms) :
    vx_W p l e R s m args below meth c H locs cells slots (vx_MQ below Qc XC args s mc ms free) (F0 m pc ls rest) q := by
  intro T hT X
  have hpl : e.platform.magicAccessors = ({} : Platform).magicAccessors := by rw [X.admits.platform]
  obtain ⟨vm', hW', X', st⟩ := X.outThrough hlocks q (g := F0 m pc ls rest) rfl rfl rfl (cell := ce) (by rw [hT]; exact hcell) (by rw [hv]; rfl)
    (by obtain ⟨k9, h9, -⟩ := Vm.findClass_spec hcl; exact ⟨k9, h9⟩) (fun z hz => by
      rcases hpass z hz with h | ⟨hz0, nm, hl1, hn1⟩
      · exact Or.inl h
      · obtain ⟨c6, hc6, hcl6⟩ := Cond.classLink_spec hown hl1 e.platform hpl
        obtain ⟨a8, b8, h1, h2, h3⟩ := hn1
        cases Option.some.inj (h1.symm.trans hcl)
        cases Option.some.inj (h2.symm.trans hc6)
        exact Or.inr ⟨hz0, _, hcl6, h3⟩)
  obtain ⟨g₀, hfr⟩ := X'.frames_eq
  have hcell9 : ((T.setVm vm').setFrames (.throwing q :: below)).heap[q]? = some ce := by
    show T.heap[q]? = some ce
    rw [hT]; exact hcell
  have hend : Ended ((T.setVm vm').setFrames (.throwing q :: below)) below (.threw q) := State.frames_setFrames _ (State.cur_lt_of_frames hfr)
  refine ⟨(T.setVm vm').setFrames (.throwing q :: below), ?_, .threw q, X'.here.running, hend, Or.inr ⟨q, rfl, E, ce, locs, hx _ hT (X'.ends _).1.alike, hcell9, hv, hcl, (X'.ends _).1, (X'.ends _).2.mono hc hs, hf⟩⟩
  rw [X.pushThrowing_eq]
  exact st
/-- a thing of a world lies in the heap -/
theorem vx_lt {D : va_G} {cl : List vw_C} {ws : va_W} {H1 : Heap} (h : va_P D cl ws H1) {k : Nat} {q : Nat × va_E} (hk : ws[k]? = some q) : q.1 < H1.size := (h k q hk).lt
end VXS
/-! ===== END ===== -/
/-! ===== BEGIN methods with a table of their own: called by a name, returning or throwing ===== -/
section VXH
/-! vx_backW, vx_callVX, vx_callSX, vx_callVW, vx_runVW, vx_runVX, vx_runSX, vx_ofWH follow the same proofs as their sisters above (Free/Laws.lean, Shelf42/LK1.lean); vx_outP calls Shelf42/NT130.lean (outThrough). -/
section
variable {l : Launch} {R : Room} {p : Program} {e : Env} {below : List Frame} {s : State} {sargs : Array Value} {y : MethodName} {len W9 : Nat}
theorem vx_backW {ws : List Cond} {rm : Room} {Pc : Array Value → State → Prop} {Qc : Array Value → State → Outcome → State → Prop} {XC : String → State → State → Prop} {mc ms : Nat} {free : Addr → Prop} {bytes : ByteArray} {maxL : Nat} {ret : Option FieldType} {hh : List (Nat × Nat × Nat × Nat)}
    (hM : vx_Met l y ws rm Pc Qc XC mc ms free) (hblind : FrameBlind Pc) (hrc : rm.cells = mc) (hrs : rm.slots = ms)
    (hframes : rm.frames + 1 ≤ R.frames) (hlocals : W9 + (maxL + 11) + rm.locals ≤ R.locals)
    (hws : ∀ w ∈ ws, ∀ a' U, s.WarmedH U.vm → w.before a' U = true) (hcode : Cond.codeWith y bytes maxL ret hh ∈ ws) (hinit : ∀ a' U, s.WarmedH U.vm → (Cond.initialized y.cls).before a' U = true) :
    vx_Back l R p e below s sargs y len W9 (PreOf R mc ms Pc) (PostOf Qc mc ms free) (vx_Post XC mc ms free) := by
  intro m meth c A g ig mk a X hg hsize hdg hW hn hp
  have h1 : (headSpec ws rm).pre.before a A.U = true := atoms_intro fun w hw => hws w hw _ _ X.warmed
  have h2 : (Cond.codeWith y bytes maxL ret hh).before a A.U = true := hws _ hcode _ _ X.warmed
  have h3 : (Cond.initialized y.cls).before a A.U = true := hinit _ _ X.warmed
  have h4 : A.cells + (headSpec ws rm).room.cells ≤ R.cells := by rw [show (headSpec ws rm).room.cells = mc from hrc]; exact hp.1
  have h5 : A.slots + (headSpec ws rm).room.slots ≤ R.slots := by rw [show (headSpec ws rm).room.slots = ms from hrs]; exact hp.2.1
  have hPc : Pc a (A.U.calling g mk a) := hblind _ _ _ _ hp.2.2
  obtain ⟨U, Ls, c0, s0⟩ := A
  dsimp only [Pt.U, Pt.locs, Pt.cells, Pt.slots] at h1 h2 h3 h4 h5 X hn hPc ⊢
  obtain ⟨m9, methY, cY, hn9, hmY, hcY, -, hlY, -⟩ := Cond.codeWith_spec h2
  cases Option.some.inj (hn9.symm.trans hn)
  obtain ⟨kY, hkY, -⟩ := className_of_methodNamed hn
  have hinitY : kY.init = .initialized := Cond.initialized_spec (findClass_of_methodNamed hn) hkY h3
  have h : At U g.method c below := by rw [hg]; exact X.here
  have hlocals9 : W9 + (maxL + 11) + (headSpec ws rm).room.locals ≤ R.locals := hlocals
  have happ : (headSpec ws rm).appliesLoose y e.platform (U.calling g mk a) = true :=
    Spec.appliesLoose_calling (g := g) h hdg hn hkY hinitY
      (X.room_calling (g := g) (R' := (headSpec ws rm).room) hsize hmY hcY hframes (by rw [hlY]; omega) h4 h5) h1
  obtain ⟨mid, hmid⟩ := h.above
  have hfr : (U.setTop g).frames = (.java g :: mid) ++ below := by rw [State.frames_setTop' g h.top, hmid]; rfl
  obtain ⟨o, s₂, hsteps, -, hend, hq⟩ := Steps.callFree hM p X.admits X.cas X.clock (acts := []) hfr happ hPc trivial
  have hq' : vx_Q Qc XC mc ms free a (U.calling g mk a) o s₂ := hq
  rw [State.frames_setTop' g h.top] at hend
  obtain ⟨g₀, hg0⟩ := Option.isSome_iff_exists.mp h.top
  obtain ⟨r, hr⟩ := State.topJava?_eq_some.mp hg0
  have hr' : (({ U with heap := s₂.heap, slotsUsed := s₂.slotsUsed } : State).setVm s₂.vm).frames = .java g₀ :: r := hr
  rcases hq' with ⟨hqc, L, hfe, hL⟩ | ⟨q, rfl, E, ce, L, hx, hce, hcv, hcl, hW₂, hsm, hL⟩
  · obtain ⟨⟨v, rfl⟩, hW₂, e2, q2, q3, q4, q5, q6⟩ := id hfe
    have e3 : s₂ = ({ (U.calling g mk a).setFrames s₂.frames with heap := s₂.heap, slotsUsed := s₂.slotsUsed } : State).setVm s₂.vm := by
      have : s₂ = ({ s₂ with vm := (U.calling g mk a).vm } : State).setVm s₂.vm := rfl
      rw [e2] at this
      exact this
    obtain ⟨c₂, i₂, len₂, hc₂, hd₂, hf₂⟩ := hend
    have hW' : U.WarmedH s₂.vm := hW₂
    have hcc : c₂ = c := by
      have h1 : s₂.code? g.method = U.code? g.method := by
        rw [State.code?_eq, State.code?_eq, hW'.alike.method?]
      exact Option.some.inj (hc₂.symm.trans (h1.trans h.code))
    subst hcc
    have hlen : len₂ = len := by rw [hdg] at hd₂; cases hd₂; rfl
    subst hlen
    have hs₂ : s₂ = (({ U with heap := s₂.heap, slotsUsed := s₂.slotsUsed } : State).setVm s₂.vm).setTop { g with pc := g.pc + len₂, stack := v.toList ++ g.stack } := by
      refine e3.trans ?_
      rw [hf₂, State.calling_eq h.top, State.setFrames_setFrames, State.setTop_of_frames _ hr', hr]
      rfl
    have hsame : U.sameButNew ({ U with heap := s₂.heap, slotsUsed := s₂.slotsUsed } : State) L mc ms := by
      refine ⟨?_, q2, q3, q4, q5, q6⟩
      obtain ⟨t, ht, -⟩ := State.frames_cons hr
      show ({ U with heap := s₂.heap, slotsUsed := s₂.slotsUsed } : State) = { U.setFrames U.frames with heap := s₂.heap, slotsUsed := s₂.slotsUsed }
      rw [State.setFrames_self ht]
    subst hg
    refine Or.inl ⟨v, ⟨(({ U with heap := s₂.heap, slotsUsed := s₂.slotsUsed } : State).setVm s₂.vm), Ls ++ L, c0 + mc, s0 + ms⟩,
      ⟨X.admits, X.cas, X.clock, X.frames, X.room, X.hears, X.method, X.code, (X.here.setHeapUsed s₂.heap s₂.slotsUsed).setVm hW'.alike, X.tail, State.WarmedH.trans X.warmed hW', X.limits, X.bytes, X.same.trans (hsame.setVm s.vm)⟩,
      ⟨g, mk, s₂, L, rfl, rfl, hqc, rfl, hL, rfl, rfl⟩, ?_⟩
    show Steps p.tables e below _ ((({ U with heap := s₂.heap, slotsUsed := s₂.slotsUsed } : State).setVm s₂.vm).setTop { g with pc := g.pc + len₂, stack := v.toList ++ g.stack })
    rw [← hs₂]
    exact hsteps
  · obtain ⟨e2, q2, q3, q4, q5, q6⟩ := id hsm
    have e3 : s₂ = ({ (U.calling g mk a).setFrames s₂.frames with heap := s₂.heap, slotsUsed := s₂.slotsUsed } : State).setVm s₂.vm := by
      have : s₂ = ({ s₂ with vm := (U.calling g mk a).vm } : State).setVm s₂.vm := rfl
      rw [e2] at this
      exact this
    have hf₂ : s₂.frames = .throwing q :: .java g :: U.frames.tail := hend
    have hW' : U.WarmedH s₂.vm := hW₂
    have hs₂ : s₂ = ((({ U with heap := s₂.heap, slotsUsed := s₂.slotsUsed } : State).setVm s₂.vm).setTop g).pushFrame (.throwing q) := by
      refine e3.trans ?_
      rw [hf₂, State.calling_eq h.top, State.setFrames_setFrames, State.pushFrame, State.frames_setTop _ hr', State.setTop_of_frames _ hr', State.setFrames_setFrames, hr]
      rfl
    have hsame : U.sameButNew ({ U with heap := s₂.heap, slotsUsed := s₂.slotsUsed } : State) L mc ms := by
      refine ⟨?_, q2, q3, q4, q5, q6⟩
      obtain ⟨t, ht, -⟩ := State.frames_cons hr
      show ({ U with heap := s₂.heap, slotsUsed := s₂.slotsUsed } : State) = { U.setFrames U.frames with heap := s₂.heap, slotsUsed := s₂.slotsUsed }
      rw [State.setFrames_self ht]
    subst hg
    refine Or.inr ⟨q, ⟨(({ U with heap := s₂.heap, slotsUsed := s₂.slotsUsed } : State).setVm s₂.vm), Ls ++ L, c0 + mc, s0 + ms⟩,
      ⟨X.admits, X.cas, X.clock, X.frames, X.room, X.hears, X.method, X.code, (X.here.setHeapUsed s₂.heap s₂.slotsUsed).setVm hW'.alike, X.tail, State.WarmedH.trans X.warmed hW', X.limits, X.bytes, X.same.trans (hsame.setVm s.vm)⟩,
      ⟨g, mk, s₂, L, E, ce, rfl, rfl, hx, hce, hcv, hcl, rfl, hL, rfl, rfl⟩, ?_⟩
    show Steps p.tables e below _ (((({ U with heap := s₂.heap, slotsUsed := s₂.slotsUsed } : State).setVm s₂.vm).setTop g).pushFrame (.throwing q))
    rw [← hs₂]
    exact hsteps
end
variable {p : Program} {l : Launch} {e : Env} {R : Room} {s : State} {m : MethodId} {args : Array Value} {below : List Frame} {meth : Method} {c : Code} {T : State} {H : Heap} {locs : List Loc} {cells slots : Nat}
theorem vx_callVX (X : Stand p l e R s m args below meth c T locs cells slots) (hexec : p.tables.exec = Jvm.exec) {own C : String} {index : Nat} {y : MethodName} {bytes : ByteArray} {maxL : Nat} {ret : Option FieldType} {hh : List (Nat × Nat × Nat × Nat)}
    (hown : s.vm.findClass own = some m.cls) (hlink : (Cond.methodLink own index y).before args s = true) (hinst : (Cond.instanceMethod y).before args s = true) (hsel : (Cond.selects C y y).before args s = true)
    (hcode : (Cond.codeWith y bytes maxL ret hh).before args s = true) (hy : y.cls ≠ "java/lang/invoke/MethodHandle" ∧ y.cls ≠ "java/lang/invoke/VarHandle")
    {W9 : Nat} {Pre : Pt → Array Value → Prop} {Post : Pt → Array Value → Option Value → Pt → Prop} {PostX : Pt → Array Value → Addr → Pt → Prop} (hK : vx_Back l R p e below s args y 3 W9 Pre Post PostX)
    {b : Addr} {cellB : Cell} (hcell : T.heap[b]? = some cellB) (hobj : cellB.vm.isStatics = false) (hcls : s.vm.findClass C = some cellB.cls)
    {g : JFrame} (hg : g.method = m) (hsize : g.locals.size = c.maxLocals) {argsL rest : List Value} (hlen : ∀ sig, parseMethodDescriptor y.desc = some sig → argsL.length = sig.parameters.length)
    (hstack : g.stack = argsL.reverse ++ .ref b :: rest) (hW : 2 * g.monitorRoom + (rest.map fun v => v.category).sum ≤ W9) (hdg : decode c.code g.pc = .ok (.invokevirtual index, 3))
    (hpre : ∀ vm₁, s.WarmedH vm₁ → Pre ⟨T.setVm vm₁, locs, cells, slots⟩ (Value.ref b :: argsL).toArray) :
    (∃ (v : Option Value) (vm₁ : Vm) (B : Pt), s.WarmedH vm₁ ∧ Stand p l e R s m args below meth c B.U B.locs B.cells B.slots ∧ Post ⟨T.setVm vm₁, locs, cells, slots⟩ (Value.ref b :: argsL).toArray v B ∧
      ∀ target, Steps p.tables e below (B.U.setTop { g with pc := g.pc + 3, stack := v.toList ++ rest }) target → Steps p.tables e below (T.setTop g) target) ∨
    (∃ (q : Addr) (vm₁ : Vm) (B : Pt), s.WarmedH vm₁ ∧ Stand p l e R s m args below meth c B.U B.locs B.cells B.slots ∧ PostX ⟨T.setVm vm₁, locs, cells, slots⟩ (Value.ref b :: argsL).toArray q B ∧
      Steps p.tables e below (T.setTop g) ((B.U.setTop { g with stack := rest }).pushFrame (.throwing q))) := by
  obtain ⟨mk, methM, hnamed, hmethM, hstM, habM⟩ := Cond.instanceMethod_spec hinst
  obtain ⟨m8, methM', cM, hn8, hmethM', -, -, -, -, -, -, hsigM⟩ := Cond.codeWith_spec hcode
  cases Option.some.inj (hn8.symm.trans hnamed)
  cases hmethM.symm.trans hmethM'
  obtain ⟨c2, r2, m2, q1, q2, q3, q4, kP, hkP, hkPi⟩ := Cond.selects_spec hsel
  cases hcls.symm.trans q1
  cases (State.methodFound?_of_named hnamed hy).symm.trans q2
  cases hnamed.symm.trans q3
  have hselP : selectMethod e.platform s.vm cellB.cls mk = .method mk := by rw [Launch.admits_selectMethod X.admits]; exact q4
  obtain ⟨vm₁, X₁, hstep₁⟩ := X.invokevirtual hexec hown hlink hnamed hmethM hstM hkP hkPi hy (a := b) (cell := cellB) hcell
    (fun z h => by rw [h] at hobj; cases hobj) hselP hmethM habM hkP hkPi (g := g) hg (argsL := argsL) (rest := rest) (hlen _ hsigM) hstack hdg
  rcases hK m meth c ⟨T.setVm vm₁, locs, cells, slots⟩ { g with stack := rest } (.invokevirtual index) mk (Value.ref b :: argsL).toArray X₁ hg hsize hdg hW (X₁.named hnamed) (hpre vm₁ X₁.warmed) with ⟨v, B, X', hpost, hsteps⟩ | ⟨q, B, X', hpost, hsteps⟩
  · exact Or.inl ⟨v, vm₁, B, X₁.warmed, X', hpost, fun target h => hstep₁ _ fun acts => by rw [doInvoke_state]; exact hsteps.trans h⟩
  · exact Or.inr ⟨q, vm₁, B, X₁.warmed, X', hpost, hstep₁ _ fun acts => by rw [doInvoke_state]; exact hsteps⟩
theorem vx_callSX (X : Stand p l e R s m args below meth c T locs cells slots) (hexec : p.tables.exec = Jvm.exec) {own : String} {index : Nat} {y : MethodName} {bytes : ByteArray} {maxL : Nat} {ret : Option FieldType} {hh : List (Nat × Nat × Nat × Nat)}
    (hown : s.vm.findClass own = some m.cls) (hlink : (Cond.methodLink own index y).before args s = true) (hstat : (Cond.static y).before args s = true) (hinit : (Cond.initialized y.cls).before args s = true)
    (hcode : (Cond.codeWith y bytes maxL ret hh).before args s = true) (hy : y.cls ≠ "java/lang/invoke/MethodHandle" ∧ y.cls ≠ "java/lang/invoke/VarHandle")
    {W9 : Nat} {Pre : Pt → Array Value → Prop} {Post : Pt → Array Value → Option Value → Pt → Prop} {PostX : Pt → Array Value → Addr → Pt → Prop} (hK : vx_Back l R p e below s args y 3 W9 Pre Post PostX)
    {g : JFrame} (hg : g.method = m) (hsize : g.locals.size = c.maxLocals) {argsL rest : List Value} (hlen : ∀ sig, parseMethodDescriptor y.desc = some sig → argsL.length = sig.parameters.length)
    (hstack : g.stack = argsL.reverse ++ rest) (hW : 2 * g.monitorRoom + (rest.map fun v => v.category).sum ≤ W9) (hdg : decode c.code g.pc = .ok (.invokestatic index, 3))
    (hpre : ∀ vm₁, s.WarmedH vm₁ → Pre ⟨T.setVm vm₁, locs, cells, slots⟩ argsL.toArray) :
    (∃ (v : Option Value) (vm₁ : Vm) (B : Pt), s.WarmedH vm₁ ∧ Stand p l e R s m args below meth c B.U B.locs B.cells B.slots ∧ Post ⟨T.setVm vm₁, locs, cells, slots⟩ argsL.toArray v B ∧
      ∀ target, Steps p.tables e below (B.U.setTop { g with pc := g.pc + 3, stack := v.toList ++ rest }) target → Steps p.tables e below (T.setTop g) target) ∨
    (∃ (q : Addr) (vm₁ : Vm) (B : Pt), s.WarmedH vm₁ ∧ Stand p l e R s m args below meth c B.U B.locs B.cells B.slots ∧ PostX ⟨T.setVm vm₁, locs, cells, slots⟩ argsL.toArray q B ∧
      Steps p.tables e below (T.setTop g) ((B.U.setTop { g with stack := rest }).pushFrame (.throwing q))) := by
  obtain ⟨mk, methM, cM, hnamed, hmethM, -, -, -, -, -, -, hsigM⟩ := Cond.codeWith_spec hcode
  have hstatic : methM.isStatic = true := Cond.static_spec hnamed hmethM hstat
  obtain ⟨kP, hkP, -⟩ := className_of_methodNamed hnamed
  have hinitP : kP.init = .initialized := Cond.initialized_spec (findClass_of_methodNamed hnamed) hkP hinit
  obtain ⟨vm₁, X₁, hstep₁⟩ := X.invokestatic hexec hown hlink hnamed hmethM hstatic hkP hinitP hy (g := g) hg (argsL := argsL) (rest := rest) (hlen _ hsigM) hstack hdg
  rcases hK m meth c ⟨T.setVm vm₁, locs, cells, slots⟩ { g with stack := rest } (.invokestatic index) mk argsL.toArray X₁ hg hsize hdg hW (X₁.named hnamed) (hpre vm₁ X₁.warmed) with ⟨v, B, X', hpost, hsteps⟩ | ⟨q, B, X', hpost, hsteps⟩
  · exact Or.inl ⟨v, vm₁, B, X₁.warmed, X', hpost, fun target h => hstep₁ _ fun acts => by rw [doInvoke_state]; exact hsteps.trans h⟩
  · exact Or.inr ⟨q, vm₁, B, X₁.warmed, X', hpost, hstep₁ _ fun acts => by rw [doInvoke_state]; exact hsteps⟩
theorem vx_callVW (X : Stand p l e R s m args below meth c T locs cells slots) (hexec : p.tables.exec = Jvm.exec) {own C : String} {index : Nat} {y : MethodName} {bytes : ByteArray} {maxL : Nat} {ret : Option FieldType} {hh : List (Nat × Nat × Nat × Nat)}
    (hown : s.vm.findClass own = some m.cls) (hlink : (Cond.methodLink own index y).before args s = true) (hinst : (Cond.instanceMethod y).before args s = true) (hsel : (Cond.selects C y y).before args s = true)
    (hcode : (Cond.codeWith y bytes maxL ret hh).before args s = true) (hy : y.cls ≠ "java/lang/invoke/MethodHandle" ∧ y.cls ≠ "java/lang/invoke/VarHandle")
    {W9 : Nat} {Pre : Pt → Array Value → Prop} {Post : Pt → Array Value → Option Value → Pt → Prop} (hK : Back l R p e below s args y 3 W9 Pre Post)
    {b : Addr} {cellB : Cell} (hcell : T.heap[b]? = some cellB) (hobj : cellB.vm.isStatics = false) (hcls : s.vm.findClass C = some cellB.cls)
    {g : JFrame} (hg : g.method = m) (hsize : g.locals.size = c.maxLocals) {argsL rest : List Value} (hlen : ∀ sig, parseMethodDescriptor y.desc = some sig → argsL.length = sig.parameters.length)
    (hstack : g.stack = argsL.reverse ++ .ref b :: rest) (hW : 2 * g.monitorRoom + (rest.map fun v => v.category).sum ≤ W9) (hdg : decode c.code g.pc = .ok (.invokevirtual index, 3))
    (hpre : ∀ vm₁, s.WarmedH vm₁ → Pre ⟨T.setVm vm₁, locs, cells, slots⟩ (Value.ref b :: argsL).toArray) :
    ∃ (v : Option Value) (vm₁ : Vm) (B : Pt), s.WarmedH vm₁ ∧ Stand p l e R s m args below meth c B.U B.locs B.cells B.slots ∧ Post ⟨T.setVm vm₁, locs, cells, slots⟩ (Value.ref b :: argsL).toArray v B ∧
      ∀ target, Steps p.tables e below (B.U.setTop { g with pc := g.pc + 3, stack := v.toList ++ rest }) target → Steps p.tables e below (T.setTop g) target := by
  obtain ⟨mk, methM, hnamed, hmethM, hstM, habM⟩ := Cond.instanceMethod_spec hinst
  obtain ⟨m8, methM', cM, hn8, hmethM', -, -, -, -, -, -, hsigM⟩ := Cond.codeWith_spec hcode
  cases Option.some.inj (hn8.symm.trans hnamed)
  cases hmethM.symm.trans hmethM'
  obtain ⟨c2, r2, m2, q1, q2, q3, q4, kP, hkP, hkPi⟩ := Cond.selects_spec hsel
  cases hcls.symm.trans q1
  cases (State.methodFound?_of_named hnamed hy).symm.trans q2
  cases hnamed.symm.trans q3
  have hselP : selectMethod e.platform s.vm cellB.cls mk = .method mk := by rw [Launch.admits_selectMethod X.admits]; exact q4
  obtain ⟨vm₁, X₁, hstep₁⟩ := X.invokevirtual hexec hown hlink hnamed hmethM hstM hkP hkPi hy (a := b) (cell := cellB) hcell
    (fun z h => by rw [h] at hobj; cases hobj) hselP hmethM habM hkP hkPi (g := g) hg (argsL := argsL) (rest := rest) (hlen _ hsigM) hstack hdg
  obtain ⟨v, B, X', hpost, hsteps⟩ := hK m meth c ⟨T.setVm vm₁, locs, cells, slots⟩ { g with stack := rest } (.invokevirtual index) mk (Value.ref b :: argsL).toArray X₁ hg hsize hdg hW (X₁.named hnamed) (hpre vm₁ X₁.warmed)
  exact ⟨v, vm₁, B, X₁.warmed, X', hpost, fun target h => hstep₁ _ fun acts => by rw [doInvoke_state]; exact hsteps.trans h⟩
abbrev vx_CVW (R : Room) (s : State) (args : Array Value) (own C : String) (index : Nat) (y : MethodName) (bytes : ByteArray) (maxL : Nat) (ret : Option FieldType) (hh : List (Nat × Nat × Nat × Nat)) (ws : List Cond) (rm : Room) (mc ms n : Nat) : Prop :=
  (rm.cells = mc ∧ rm.slots = ms ∧ rm.frames + 1 ≤ R.frames ∧ 8 + (maxL + 11) + rm.locals ≤ R.locals ∧ (∀ w ∈ ws, ∀ (a' : Array Value) (U : State), s.WarmedH U.vm → w.before a' U = true) ∧ Cond.codeWith y bytes maxL ret hh ∈ ws) ∧
  (Cond.codeWith y bytes maxL ret hh).before args s = true ∧ (Cond.initialized y.cls).before args s = true ∧ (y.cls ≠ "java/lang/invoke/MethodHandle" ∧ y.cls ≠ "java/lang/invoke/VarHandle") ∧
  (∀ sig, parseMethodDescriptor y.desc = some sig → n = sig.parameters.length) ∧ (Cond.methodLink own index y).before args s = true ∧ (Cond.instanceMethod y).before args s = true ∧ (Cond.selects C y y).before args s = true
theorem vx_cwVW {own C : String} {index maxL mc ms : Nat} {y : MethodName} {bytes : ByteArray} {ret : Option FieldType} {hh : List (Nat × Nat × Nat × Nat)} {Ts ws ws' : List Cond} {rm : Room} (n : Nat) (ht : ∀ w ∈ Ts, w.before args s = true) (hT : GoodIn Ts (wsV own index C y ws)) (hw : ws = Cond.codeWith y bytes maxL ret hh :: ws') (hrc : rm.cells = mc) (hrs : rm.slots = ms)
    (hd : y.cls = C ∧ y.cls ≠ "java/lang/invoke/MethodHandle" ∧ y.cls ≠ "java/lang/invoke/VarHandle" ∧ (parseMethodDescriptor y.desc).map (fun d => d.parameters.length) = some n) (hR : rm.frames + 1 ≤ R.frames ∧ 8 + (maxL + 11) + rm.locals ≤ R.locals) :
    vx_CVW R s args own C index y bytes maxL ret hh ws rm mc ms n := by
  obtain ⟨hC, hd⟩ := hd
  subst hC
  have ok : ∀ w ∈ wsV own index y.cls y ws, w.before args s = true := fun w h => ht w (hT w h).1
  have hG : GoodIn Ts ws := fun w h => hT w (by unfold wsV; exact List.mem_append_right _ h)
  have hc : Cond.codeWith y bytes maxL ret hh ∈ ws := by rw [hw]; exact List.mem_cons_self
  refine ⟨⟨hrc, hrs, hR.1, hR.2, pay_in ht hG, hc⟩, ht _ (hG _ hc).1, ok _ (by simp [wsV]), ⟨hd.1, hd.2.1⟩, fun sig h => ?_, ok _ (by simp [wsV]), ok _ (by simp [wsV]), ok _ (by simp [wsV])⟩
  have h2 := hd.2.2
  rw [h] at h2
  exact (Option.some.inj h2).symm
theorem vx_runVW {y : MethodName} {bytes cc : ByteArray} {maxL nL mc ms n index : Nat} {ret : Option FieldType} {hh : List (Nat × Nat × Nat × Nat)} {ws : List Cond} {rm : Room} {Pc : Array Value → State → Prop} {Qc : Array Value → State → Outcome → State → Prop} {free : Addr → Prop} {Ts : List Cond} {own C : String} {b : Addr} {As rest : List Value} {g : JFrame}
    (S : CallFix p m c cc nL s args Ts own) (hM : Met l y ws rm Pc Qc mc ms free) (cw : vx_CVW R s args own C index y bytes maxL ret hh ws rm mc ms n) (hp : PreV s H C b Pc As)
    (hg : g.method = m) (hn : As.length = n) (hsize : g.locals.size = nL) (hstack : g.stack = As.reverse ++ .ref b :: rest) (hW : 2 * g.monitorRoom + (rest.map fun v => v.category).sum ≤ 8) (hdg : decode cc g.pc = .ok (.invokevirtual index, 3)) (hf : cells + mc ≤ R.cells ∧ slots + ms ≤ R.slots) :
    va_Run p l e R s m args below meth c H locs cells slots mc ms g rest (Qc (Value.ref b :: As).toArray) free := by
  obtain ⟨⟨hrc, hrs, hfr, hlo, hws, hcw⟩, hcode, hini, hy, hlen, hl, hin, hse⟩ := cw
  have hK : Back l R p e below s args y 3 8 (PreOf R mc ms Pc) (PostOf Qc mc ms free) := va_backW (hh := hh) (bytes := bytes) (maxL := maxL) (ret := ret) hM hp.1 hrc hrs hfr hlo hws hcw (fun a' U hW => word_at hW (Or.inl (by first | rfl | simp [Cond.onTables, Cond.keeps, Cond.steady])) hini)
  obtain ⟨hx, hb, hml, ho, -⟩ := S
  obtain ⟨-, ⟨cellB, hcB, hoB, hclB⟩, hPc⟩ := hp
  intro T hT X
  obtain ⟨v, vm₁, ⟨U', l2, c2, s2⟩, hW₁, X', ⟨g', mk, t, L, e1, e2, hq, h1, hL, h2, h3⟩, st⟩ := vx_callVW X hx (C := C) (hh := hh) (bytes := bytes) (maxL := maxL) (ret := ret) ho hl hin hse hcode hy hK (by rw [hT]; exact hcB) hoB hclB hg (hsize.trans hml.symm) (argsL := As) (rest := rest) (fun sig h => hn.trans (hlen sig h)) hstack hW (by rw [hb]; exact hdg)
    (fun vm₁ hW₁ => ⟨hf.1, hf.2, hPc (T.setVm vm₁) hT hW₁⟩)
  dsimp only [Pt.U, Pt.locs, Pt.cells, Pt.slots] at X' e1 e2 h1 h2 h3 st
  subst h1; subst h2; subst h3
  exact ⟨v, (T.setVm vm₁).calling g' mk (Value.ref b :: As).toArray, t, U', L, hT, X', hL, e1, e2, hq, st⟩
section
variable {y : MethodName} {bytes cc : ByteArray} {maxL nL mc ms n index : Nat} {ret : Option FieldType} {ws : List Cond} {rm : Room} {Pc : Array Value → State → Prop} {Qc : Array Value → State → Outcome → State → Prop} {XC : String → State → State → Prop} {free : Addr → Prop} {Ts : List Cond} {own C : String} {b : Addr} {As rest : List Value} {g : JFrame}
theorem vx_runVX {hh : List (Nat × Nat × Nat × Nat)} (S : CallFix p m c cc nL s args Ts own) (hM : vx_Met l y ws rm Pc Qc XC mc ms free) (cw : vx_CVW R s args own C index y bytes maxL ret hh ws rm mc ms n) (hp : PreV s H C b Pc As)
    (hg : g.method = m) (hn : As.length = n) (hsize : g.locals.size = nL) (hstack : g.stack = As.reverse ++ .ref b :: rest) (hW : 2 * g.monitorRoom + (rest.map fun v => v.category).sum ≤ 8) (hdg : decode cc g.pc = .ok (.invokevirtual index, 3)) (hf : cells + mc ≤ R.cells ∧ slots + ms ≤ R.slots) :
    vx_Run p l e R s m args below meth c H locs cells slots mc ms g rest (Qc (Value.ref b :: As).toArray) XC free := by
  obtain ⟨⟨hrc, hrs, hfr, hlo, hws, hcw⟩, hcode, hini, hy, hlen, hl, hin, hse⟩ := cw
  have hK : vx_Back l R p e below s args y 3 8 (PreOf R mc ms Pc) (PostOf Qc mc ms free) (vx_Post XC mc ms free) := vx_backW (hh := hh) (bytes := bytes) (maxL := maxL) (ret := ret) hM hp.1 hrc hrs hfr hlo hws hcw (fun a' U hW => word_at hW (Or.inl (by first | rfl | simp [Cond.onTables, Cond.keeps, Cond.steady])) hini)
  obtain ⟨hx, hb, hml, ho, -⟩ := S
  obtain ⟨-, ⟨cellB, hcB, hoB, hclB⟩, hPc⟩ := hp
  intro T hT X
  rcases vx_callVX X hx (C := C) (hh := hh) (bytes := bytes) (maxL := maxL) (ret := ret) ho hl hin hse hcode hy hK (by rw [hT]; exact hcB) hoB hclB hg (hsize.trans hml.symm) (argsL := As) (rest := rest) (fun sig h => hn.trans (hlen sig h)) hstack hW (by rw [hb]; exact hdg)
    (fun vm₁ hW₁ => ⟨hf.1, hf.2, hPc (T.setVm vm₁) hT hW₁⟩) with ⟨v, vm₁, ⟨U', l2, c2, s2⟩, hW₁, X', ⟨g', mk, t, L, e1, e2, hq, h1, hL, h2, h3⟩, st⟩ | ⟨q, vm₁, ⟨U', l2, c2, s2⟩, hW₁, X', ⟨g', mk, t, L, E, ce, e1, e2, hq, hce, hcv, hcl, h1, hL, h2, h3⟩, st⟩
  · dsimp only [Pt.U, Pt.locs, Pt.cells, Pt.slots] at X' e1 e2 h1 h2 h3 st
    subst h1; subst h2; subst h3
    exact Or.inl ⟨v, (T.setVm vm₁).calling g' mk (Value.ref b :: As).toArray, t, U', L, hT, X', hL, e1, e2, hq, st⟩
  · dsimp only [Pt.U, Pt.locs, Pt.cells, Pt.slots] at X' e1 e2 h1 h2 h3 st hcl
    subst h1; subst h2; subst h3
    exact Or.inr ⟨q, (T.setVm vm₁).calling g' mk (Value.ref b :: As).toArray, t, U', L, E, ce, hT, X', hL, e1, e2, hq, hce, hcv, vx_cls hW₁ hcl, st⟩
theorem vx_runSX {hh : List (Nat × Nat × Nat × Nat)} (S : CallFix p m c cc nL s args Ts own) (hM : vx_Met l y ws rm Pc Qc XC mc ms free) (cw : vx_CSW R s args own index y bytes maxL ret hh ws rm mc ms n) (hp : PreS s H Pc As)
    (hg : g.method = m) (hn : As.length = n) (hsize : g.locals.size = nL) (hstack : g.stack = As.reverse ++ rest) (hW : 2 * g.monitorRoom + (rest.map fun v => v.category).sum ≤ 8) (hdg : decode cc g.pc = .ok (.invokestatic index, 3)) (hf : cells + mc ≤ R.cells ∧ slots + ms ≤ R.slots) :
    vx_Run p l e R s m args below meth c H locs cells slots mc ms g rest (Qc As.toArray) XC free := by
  obtain ⟨⟨hrc, hrs, hfr, hlo, hws, hcw⟩, hcode, hini, hy, hlen, hl, hstt⟩ := cw
  have hK : vx_Back l R p e below s args y 3 8 (PreOf R mc ms Pc) (PostOf Qc mc ms free) (vx_Post XC mc ms free) := vx_backW (hh := hh) (bytes := bytes) (maxL := maxL) (ret := ret) hM hp.1 hrc hrs hfr hlo hws hcw (fun a' U hW => word_at hW (Or.inl (by first | rfl | simp [Cond.onTables, Cond.keeps, Cond.steady])) hini)
  obtain ⟨hx, hb, hml, ho, -⟩ := S
  intro T hT X
  rcases vx_callSX X hx (hh := hh) (bytes := bytes) (maxL := maxL) (ret := ret) ho hl hstt hini hcode hy hK hg (hsize.trans hml.symm) (argsL := As) (rest := rest) (fun sig h => hn.trans (hlen sig h)) hstack hW (by rw [hb]; exact hdg)
    (fun vm₁ hW₁ => ⟨hf.1, hf.2, hp.2 (T.setVm vm₁) hT hW₁⟩) with ⟨v, vm₁, ⟨U', l2, c2, s2⟩, hW₁, X', ⟨g', mk, t, L, e1, e2, hq, h1, hL, h2, h3⟩, st⟩ | ⟨q, vm₁, ⟨U', l2, c2, s2⟩, hW₁, X', ⟨g', mk, t, L, E, ce, e1, e2, hq, hce, hcv, hcl, h1, hL, h2, h3⟩, st⟩
  · dsimp only [Pt.U, Pt.locs, Pt.cells, Pt.slots] at X' e1 e2 h1 h2 h3 st
    subst h1; subst h2; subst h3
    exact Or.inl ⟨v, (T.setVm vm₁).calling g' mk As.toArray, t, U', L, hT, X', hL, e1, e2, hq, st⟩
  · dsimp only [Pt.U, Pt.locs, Pt.cells, Pt.slots] at X' e1 e2 h1 h2 h3 st hcl
    subst h1; subst h2; subst h3
    exact Or.inr ⟨q, (T.setVm vm₁).calling g' mk As.toArray, t, U', L, E, ce, hT, X', hL, e1, e2, hq, hce, hcv, vx_cls hW₁ hcl, st⟩
end
end VXH
theorem vx_ofWH {l : Launch} {y : MethodName} {ws ws' : List Cond} {rm : Room} {Pc : Array Value → State → Prop} {Qc : Array Value → State → Outcome → State → Prop} {XC : String → State → State → Prop} {mc ms : Nat} {free : Addr → Prop} {cc : ByteArray} {maxL : Nat} {ret : Option FieldType} {hh : List (Nat × Nat × Nat × Nat)}
    (hy : plainName y.cls = true) (hw : ws = Cond.codeWith y cc maxL ret hh :: ws')
    (body : ∀ p e s m args below meth c s₁, BodyLoose p l y (headSpec ws rm) cc maxL ret e s m args below meth c s₁ → c.maxLocals = maxL → Pc args s →
      W p l e (headSpec ws rm).room s m args below meth c s.heap [] 0 0 (vx_MQ below Qc XC args s mc ms free) (entryFrame m args maxL)) : vx_Met l y ws rm Pc Qc XC mc ms free := by
  refine MetFree.of_bodyS (code := cc) (maxLocals := maxL) (ret := ret) hy ?_ ?_
  · intro args s m h hn
    obtain ⟨m9, meth, c, hn9, h1, h2, h3, h4, -, h5, h6, -⟩ := Cond.codeWith_spec (atoms_spec (ws := ws) h _ (by rw [hw]; exact List.mem_cons_self))
    cases hn.symm.trans hn9
    exact ⟨meth, c, h1, h2, h3, h4, h5, h6⟩
  · intro p e s m args below meth c s₁ B hml hP _
    have hh0 : s₁.heap = s.heap := by rw [B.state]; rfl
    obtain ⟨t, a1, o, b1, b2, b3⟩ := body p e s m args below meth c s₁ B hml hP s₁ hh0 (Stand.of_body B)
    exact ⟨t, o, a1, b1, b2, b3⟩
/-! ===== END ===== -/
end
section
/-! ===== BEGIN printed: names, fields, word lists, decode rows ===== -/
def RX0 : String := "PuddingstoneLine$GrainSet"
def TX0 : u_T := fun k => match k with
  | _ => ("PuddingstoneLine$GrainSet", "grains", "[Z", true)
def tyX0 : Nat → FieldType := fun k => match k with
  | _ => .array .boolean
abbrev wsX00 : List Cond := u_ws RX0 TX0 1
theorem nmX0 : ∀ a, a < 1 → ∀ b, b < 1 → a ≠ b → (TX0 a).2.1 ≠ (TX0 b).2.1 := by decide +kernel
theorem tyX0_ok : ∀ k, k < 1 → parseFieldDescriptor (TX0 k).2.2.1 = some (tyX0 k) := by decide +kernel
abbrev cX0_init : ByteArray := prog_2_method_1_code
def yX0_init : MethodName := ⟨RX0, "<init>", "()V"⟩
abbrev cX0_holds : ByteArray := prog_2_method_2_code
def yX0_holds : MethodName := ⟨RX0, "holds", "(I)Z"⟩
abbrev cX0_write : ByteArray := prog_2_method_3_code
def yX0_write : MethodName := ⟨RX0, "write", "(IZ)V"⟩
abbrev cX0_fill : ByteArray := prog_2_method_4_code
def yX0_fill : MethodName := ⟨RX0, "fill", "(IIZ)I"⟩
abbrev cX0_copyFrom : ByteArray := prog_2_method_5_code
def yX0_copyFrom : MethodName := ⟨RX0, "copyFrom", "(LPuddingstoneLine$GrainSet;)V"⟩
abbrev cX0_count : ByteArray := prog_2_method_6_code
def yX0_count : MethodName := ⟨RX0, "count", "()I"⟩
abbrev cX0_length : ByteArray := prog_2_method_7_code
def yX0_length : MethodName := ⟨RX0, "length", "()I"⟩
abbrev cX0_isInside : ByteArray := prog_2_method_8_code
def yX0_isInside : MethodName := ⟨RX0, "isInside", "(LPuddingstoneLine$GrainSet;)Z"⟩
abbrev cX0_firstOfRun : ByteArray := prog_2_method_9_code
def yX0_firstOfRun : MethodName := ⟨RX0, "firstOfRun", "(I)I"⟩
abbrev cX0_lastOfRun : ByteArray := prog_2_method_10_code
def yX0_lastOfRun : MethodName := ⟨RX0, "lastOfRun", "(I)I"⟩
abbrev cX0_invert : ByteArray := prog_2_method_11_code
def yX0_invert : MethodName := ⟨RX0, "invert", "()V"⟩
abbrev cX0_dropEdgePoints : ByteArray := prog_2_method_12_code
def yX0_dropEdgePoints : MethodName := ⟨RX0, "dropEdgePoints", "()V"⟩
abbrev cX0_addEdgePoints : ByteArray := prog_2_method_13_code
def yX0_addEdgePoints : MethodName := ⟨RX0, "addEdgePoints", "()V"⟩
abbrev cX0_keepLonePoints : ByteArray := prog_2_method_14_code
def yX0_keepLonePoints : MethodName := ⟨RX0, "keepLonePoints", "()V"⟩
abbrev cX0_mirror : ByteArray := prog_2_method_15_code
def yX0_mirror : MethodName := ⟨RX0, "mirror", "()V"⟩
def RX1 : String := "PuddingstoneLine$SpanRow"
def TX1 : u_T := fun k => match k with
  | 0 => ("PuddingstoneLine$SpanRow", "firsts", "[I", true)
  | 1 => ("PuddingstoneLine$SpanRow", "lasts", "[I", true)
  | _ => ("PuddingstoneLine$SpanRow", "size", "I", false)
def tyX1 : Nat → FieldType := fun k => match k with
  | 0 => .array .int
  | 1 => .array .int
  | _ => .int
abbrev wsX10 : List Cond := u_ws RX1 TX1 3
theorem nmX1 : ∀ a, a < 3 → ∀ b, b < 3 → a ≠ b → (TX1 a).2.1 ≠ (TX1 b).2.1 := by decide +kernel
theorem tyX1_ok : ∀ k, k < 3 → parseFieldDescriptor (TX1 k).2.2.1 = some (tyX1 k) := by decide +kernel
abbrev cX1_init : ByteArray := prog_3_method_1_code
def yX1_init : MethodName := ⟨RX1, "<init>", "()V"⟩
abbrev cX1_readRuns : ByteArray := prog_3_method_2_code
def yX1_readRuns : MethodName := ⟨RX1, "readRuns", "(LPuddingstoneLine$GrainSet;Z)V"⟩
abbrev cX1_begin : ByteArray := prog_3_method_3_code
def yX1_begin : MethodName := ⟨RX1, "begin", "(I)V"⟩
abbrev cX1_extend : ByteArray := prog_3_method_4_code
def yX1_extend : MethodName := ⟨RX1, "extend", "(I)V"⟩
abbrev cX1_size : ByteArray := prog_3_method_5_code
def yX1_size : MethodName := ⟨RX1, "size", "()I"⟩
abbrev cX1_first : ByteArray := prog_3_method_6_code
def yX1_first : MethodName := ⟨RX1, "first", "(I)I"⟩
abbrev cX1_last : ByteArray := prog_3_method_7_code
def yX1_last : MethodName := ⟨RX1, "last", "(I)I"⟩
abbrev cX1_length : ByteArray := prog_3_method_8_code
def yX1_length : MethodName := ⟨RX1, "length", "(I)I"⟩
abbrev cX1_fact : ByteArray := prog_3_method_9_code
def yX1_fact : MethodName := ⟨RX1, "fact", "(II)I"⟩
abbrev cX1_lonePoints : ByteArray := prog_3_method_10_code
def yX1_lonePoints : MethodName := ⟨RX1, "lonePoints", "()I"⟩
abbrev cX1_longest : ByteArray := prog_3_method_11_code
def yX1_longest : MethodName := ⟨RX1, "longest", "()I"⟩
def RX2 : String := "PuddingstoneLine$StepFunction"
def TX2 : u_T := fun k => match k with
  | _ => ("PuddingstoneLine$StepFunction", "values", "[I", true)
def tyX2 : Nat → FieldType := fun k => match k with
  | _ => .array .int
abbrev wsX20 : List Cond := u_ws RX2 TX2 1
theorem nmX2 : ∀ a, a < 1 → ∀ b, b < 1 → a ≠ b → (TX2 a).2.1 ≠ (TX2 b).2.1 := by decide +kernel
theorem tyX2_ok : ∀ k, k < 1 → parseFieldDescriptor (TX2 k).2.2.1 = some (tyX2 k) := by decide +kernel
abbrev cX2_init : ByteArray := prog_4_method_1_code
def yX2_init : MethodName := ⟨RX2, "<init>", "()V"⟩
abbrev cX2_at : ByteArray := prog_4_method_2_code
def yX2_at : MethodName := ⟨RX2, "at", "(I)I"⟩
abbrev cX2_write : ByteArray := prog_4_method_3_code
def yX2_write : MethodName := ⟨RX2, "write", "(II)V"⟩
abbrev cX2_copyFrom : ByteArray := prog_4_method_4_code
def yX2_copyFrom : MethodName := ⟨RX2, "copyFrom", "(LPuddingstoneLine$StepFunction;)V"⟩
abbrev cX2_steps : ByteArray := prog_4_method_5_code
def yX2_steps : MethodName := ⟨RX2, "steps", "()I"⟩
abbrev cX2_greatest : ByteArray := prog_4_method_6_code
def yX2_greatest : MethodName := ⟨RX2, "greatest", "(II)I"⟩
abbrev cX2_least : ByteArray := prog_4_method_7_code
def yX2_least : MethodName := ⟨RX2, "least", "(II)I"⟩
abbrev cX2_firstGreatest : ByteArray := prog_4_method_8_code
def yX2_firstGreatest : MethodName := ⟨RX2, "firstGreatest", "()I"⟩
abbrev cX2_negate : ByteArray := prog_4_method_9_code
def yX2_negate : MethodName := ⟨RX2, "negate", "()V"⟩
abbrev cX2_climbFromLeft : ByteArray := prog_4_method_10_code
def yX2_climbFromLeft : MethodName := ⟨RX2, "climbFromLeft", "()V"⟩
abbrev cX2_climbFromRight : ByteArray := prog_4_method_11_code
def yX2_climbFromRight : MethodName := ⟨RX2, "climbFromRight", "()V"⟩
abbrev cX2_addUp : ByteArray := prog_4_method_12_code
def yX2_addUp : MethodName := ⟨RX2, "addUp", "()V"⟩
abbrev cX2_mirrorOf : ByteArray := prog_4_method_13_code
def yX2_mirrorOf : MethodName := ⟨RX2, "mirrorOf", "(LPuddingstoneLine$StepFunction;)V"⟩
abbrev cX2_greatestNear : ByteArray := prog_4_method_14_code
def yX2_greatestNear : MethodName := ⟨RX2, "greatestNear", "(LPuddingstoneLine$StepFunction;I)V"⟩
abbrev cX2_leastNear : ByteArray := prog_4_method_15_code
def yX2_leastNear : MethodName := ⟨RX2, "leastNear", "(LPuddingstoneLine$StepFunction;I)V"⟩
def RX3 : String := "PuddingstoneLine"
def TX3 : u_T := fun k => match k with
  | 0 => ("PuddingstoneLine", "sets", "[LPuddingstoneLine$GrainSet;", true)
  | 1 => ("PuddingstoneLine", "functions", "[LPuddingstoneLine$StepFunction;", true)
  | 2 => ("PuddingstoneLine", "spareSet", "LPuddingstoneLine$GrainSet;", true)
  | 3 => ("PuddingstoneLine", "spareFunction", "LPuddingstoneLine$StepFunction;", true)
  | 4 => ("PuddingstoneLine", "spanRow", "LPuddingstoneLine$SpanRow;", true)
  | _ => ("PuddingstoneLine", "coverSets", "[I", true)
def tyX3 : Nat → FieldType := fun k => match k with
  | 0 => .array (.object "PuddingstoneLine$GrainSet")
  | 1 => .array (.object "PuddingstoneLine$StepFunction")
  | 2 => .object "PuddingstoneLine$GrainSet"
  | 3 => .object "PuddingstoneLine$StepFunction"
  | 4 => .object "PuddingstoneLine$SpanRow"
  | _ => .array .int
abbrev wsX30 : List Cond := u_ws RX3 TX3 6
theorem nmX3 : ∀ a, a < 6 → ∀ b, b < 6 → a ≠ b → (TX3 a).2.1 ≠ (TX3 b).2.1 := by decide +kernel
theorem tyX3_ok : ∀ k, k < 6 → parseFieldDescriptor (TX3 k).2.2.1 = some (tyX3 k) := by decide +kernel
abbrev cX3_init : ByteArray := prog_1_method_1_code
def yX3_init : MethodName := ⟨RX3, "<init>", "()V"⟩
abbrev cX3_span : ByteArray := prog_1_method_2_code
def yX3_span : MethodName := ⟨RX3, "span", "(IIIIZ)I"⟩
abbrev cX3_join : ByteArray := prog_1_method_3_code
def yX3_join : MethodName := ⟨RX3, "join", "(IIII)I"⟩
abbrev cX3_change : ByteArray := prog_1_method_4_code
def yX3_change : MethodName := ⟨RX3, "change", "(II)I"⟩
abbrev cX3_move : ByteArray := prog_1_method_5_code
def yX3_move : MethodName := ⟨RX3, "move", "(II)I"⟩
abbrev cX3_stretch : ByteArray := prog_1_method_6_code
def yX3_stretch : MethodName := ⟨RX3, "stretch", "(II)I"⟩
abbrev cX3_ofSet : ByteArray := prog_1_method_7_code
def yX3_ofSet : MethodName := ⟨RX3, "ofSet", "(II)I"⟩
abbrev cX3_ofSpan : ByteArray := prog_1_method_8_code
def yX3_ofSpan : MethodName := ⟨RX3, "ofSpan", "(III)I"⟩
abbrev cX3_has : ByteArray := prog_1_method_9_code
def yX3_has : MethodName := ⟨RX3, "has", "(II)Z"⟩
abbrev cX3_far : ByteArray := prog_1_method_10_code
def yX3_far : MethodName := ⟨RX3, "far", "(II)I"⟩
abbrev cX3_beside : ByteArray := prog_1_method_11_code
def yX3_beside : MethodName := ⟨RX3, "beside", "(II)I"⟩
abbrev cX3_raise : ByteArray := prog_1_method_12_code
def yX3_raise : MethodName := ⟨RX3, "raise", "(IIIII)I"⟩
abbrev cX3_set : ByteArray := prog_1_method_13_code
def yX3_set : MethodName := ⟨RX3, "set", "(III)I"⟩
abbrev cX3_mix : ByteArray := prog_1_method_14_code
def yX3_mix : MethodName := ⟨RX3, "mix", "(IIII)I"⟩
abbrev cX3_turn : ByteArray := prog_1_method_15_code
def yX3_turn : MethodName := ⟨RX3, "turn", "(III)I"⟩
abbrev cX3_thick : ByteArray := prog_1_method_16_code
def yX3_thick : MethodName := ⟨RX3, "thick", "(II)I"⟩
abbrev cX3_where : ByteArray := prog_1_method_17_code
def yX3_where : MethodName := ⟨RX3, "where", "(IIII)I"⟩
abbrev cX3_ofFunction : ByteArray := prog_1_method_18_code
def yX3_ofFunction : MethodName := ⟨RX3, "ofFunction", "(II)I"⟩
abbrev cX3_value : ByteArray := prog_1_method_19_code
def yX3_value : MethodName := ⟨RX3, "value", "(II)I"⟩
abbrev cX3_area : ByteArray := prog_1_method_20_code
def yX3_area : MethodName := ⟨RX3, "area", "(II)I"⟩
abbrev cX3_mean : ByteArray := prog_1_method_21_code
def yX3_mean : MethodName := ⟨RX3, "mean", "(II)D"⟩
abbrev cX3_thicker : ByteArray := prog_1_method_22_code
def yX3_thicker : MethodName := ⟨RX3, "thicker", "(II)I"⟩
abbrev cX3_cover : ByteArray := prog_1_method_23_code
def yX3_cover : MethodName := ⟨RX3, "cover", "(II)I"⟩
abbrev cX3_covers : ByteArray := prog_1_method_24_code
def yX3_covers : MethodName := ⟨RX3, "covers", "(III)I"⟩
abbrev cX3_apart : ByteArray := prog_1_method_25_code
def yX3_apart : MethodName := ⟨RX3, "apart", "(I)I"⟩
abbrev cX3_pins : ByteArray := prog_1_method_26_code
def yX3_pins : MethodName := ⟨RX3, "pins", "(I)I"⟩
abbrev cX3_meetWith : ByteArray := prog_1_method_27_code
def yX3_meetWith : MethodName := ⟨RX3, "meetWith", "(III)I"⟩
abbrev cX3_clear : ByteArray := prog_1_method_28_code
def yX3_clear : MethodName := ⟨RX3, "clear", "(II)I"⟩
abbrev cX3_best : ByteArray := prog_1_method_29_code
def yX3_best : MethodName := ⟨RX3, "best", "(II)I"⟩
abbrev cX3_saves : ByteArray := prog_1_method_30_code
def yX3_saves : MethodName := ⟨RX3, "saves", "(III)I"⟩
abbrev cX3_digest : ByteArray := prog_1_method_31_code
def yX3_digest : MethodName := ⟨RX3, "digest", "()J"⟩
abbrev cX3_setOrNull : ByteArray := prog_1_method_32_code
def yX3_setOrNull : MethodName := ⟨RX3, "setOrNull", "(I)LPuddingstoneLine$GrainSet;"⟩
abbrev cX3_setAt : ByteArray := prog_1_method_33_code
def yX3_setAt : MethodName := ⟨RX3, "setAt", "(I)LPuddingstoneLine$GrainSet;"⟩
abbrev cX3_functionAt : ByteArray := prog_1_method_34_code
def yX3_functionAt : MethodName := ⟨RX3, "functionAt", "(I)LPuddingstoneLine$StepFunction;"⟩
abbrev cX3_checkSet : ByteArray := prog_1_method_35_code
def yX3_checkSet : MethodName := ⟨RX3, "checkSet", "(I)V"⟩
abbrev cX3_checkGrain : ByteArray := prog_1_method_36_code
def yX3_checkGrain : MethodName := ⟨RX3, "checkGrain", "(I)V"⟩
abbrev cX3_checkChoice : ByteArray := prog_1_method_37_code
def yX3_checkChoice : MethodName := ⟨RX3, "checkChoice", "(II)V"⟩
abbrev cX3_checkSpan : ByteArray := prog_1_method_38_code
def yX3_checkSpan : MethodName := ⟨RX3, "checkSpan", "(III)V"⟩
abbrev cX3_checkMove : ByteArray := prog_1_method_39_code
def yX3_checkMove : MethodName := ⟨RX3, "checkMove", "(I)V"⟩
abbrev cX3_checkFamily : ByteArray := prog_1_method_40_code
def yX3_checkFamily : MethodName := ⟨RX3, "checkFamily", "(I)V"⟩
abbrev cX3_firstGrain : ByteArray := prog_1_method_41_code
def yX3_firstGrain : MethodName := ⟨RX3, "firstGrain", "(III)I"⟩
abbrev cX3_lastGrain : ByteArray := prog_1_method_42_code
def yX3_lastGrain : MethodName := ⟨RX3, "lastGrain", "(III)I"⟩
abbrev cX3_isPoint : ByteArray := prog_1_method_43_code
def yX3_isPoint : MethodName := ⟨RX3, "isPoint", "(I)Z"⟩
abbrev cX3_isJoined : ByteArray := prog_1_method_44_code
def yX3_isJoined : MethodName := ⟨RX3, "isJoined", "(ZZI)Z"⟩
abbrev cX3_changeSet : ByteArray := prog_1_method_45_code
def yX3_changeSet : MethodName := ⟨RX3, "changeSet", "(LPuddingstoneLine$GrainSet;I)V"⟩
abbrev cX3_keepLongest : ByteArray := prog_1_method_46_code
def yX3_keepLongest : MethodName := ⟨RX3, "keepLongest", "(LPuddingstoneLine$GrainSet;)V"⟩
abbrev cX3_fillGaps : ByteArray := prog_1_method_47_code
def yX3_fillGaps : MethodName := ⟨RX3, "fillGaps", "(LPuddingstoneLine$GrainSet;)V"⟩
abbrev cX3_putStretched : ByteArray := prog_1_method_48_code
def yX3_putStretched : MethodName := ⟨RX3, "putStretched", "(LPuddingstoneLine$GrainSet;II)V"⟩
abbrev cX3_factOfSet : ByteArray := prog_1_method_49_code
def yX3_factOfSet : MethodName := ⟨RX3, "factOfSet", "(LPuddingstoneLine$GrainSet;I)I"⟩
abbrev cX3_canLie : ByteArray := prog_1_method_50_code
def yX3_canLie : MethodName := ⟨RX3, "canLie", "(LPuddingstoneLine$GrainSet;ILPuddingstoneLine$GrainSet;)Z"⟩
abbrev cX3_mixed : ByteArray := prog_1_method_51_code
def yX3_mixed : MethodName := ⟨RX3, "mixed", "(III)I"⟩
abbrev cX3_turnFunction : ByteArray := prog_1_method_52_code
def yX3_turnFunction : MethodName := ⟨RX3, "turnFunction", "(LPuddingstoneLine$StepFunction;II)V"⟩
abbrev cX3_factOfFunction : ByteArray := prog_1_method_53_code
def yX3_factOfFunction : MethodName := ⟨RX3, "factOfFunction", "(LPuddingstoneLine$StepFunction;I)I"⟩
abbrev cX3_areaOver : ByteArray := prog_1_method_54_code
def yX3_areaOver : MethodName := ⟨RX3, "areaOver", "(LPuddingstoneLine$StepFunction;LPuddingstoneLine$GrainSet;)I"⟩
abbrev cX3_areaBetween : ByteArray := prog_1_method_55_code
def yX3_areaBetween : MethodName := ⟨RX3, "areaBetween", "(LPuddingstoneLine$StepFunction;II)I"⟩
abbrev cX3_memberOrNull : ByteArray := prog_1_method_56_code
def yX3_memberOrNull : MethodName := ⟨RX3, "memberOrNull", "(II)LPuddingstoneLine$GrainSet;"⟩
abbrev cX3_thickness : ByteArray := prog_1_method_57_code
def yX3_thickness : MethodName := ⟨RX3, "thickness", "(II)I"⟩
abbrev cX3_countThicker : ByteArray := prog_1_method_58_code
def yX3_countThicker : MethodName := ⟨RX3, "countThicker", "(II)I"⟩
abbrev cX3_takeCover : ByteArray := prog_1_method_59_code
def yX3_takeCover : MethodName := ⟨RX3, "takeCover", "(ILPuddingstoneLine$GrainSet;)I"⟩
abbrev cX3_farthestFrom : ByteArray := prog_1_method_60_code
def yX3_farthestFrom : MethodName := ⟨RX3, "farthestFrom", "(II)I"⟩
abbrev cX3_countPins : ByteArray := prog_1_method_61_code
def yX3_countPins : MethodName := ⟨RX3, "countPins", "(I)I"⟩
abbrev cX3_endsUnpinned : ByteArray := prog_1_method_62_code
def yX3_endsUnpinned : MethodName := ⟨RX3, "endsUnpinned", "(III)Z"⟩
abbrev cX3_digestOfSet : ByteArray := prog_1_method_63_code
def yX3_digestOfSet : MethodName := ⟨RX3, "digestOfSet", "(JLPuddingstoneLine$GrainSet;)J"⟩
abbrev cX3_digestOfFunction : ByteArray := prog_1_method_64_code
def yX3_digestOfFunction : MethodName := ⟨RX3, "digestOfFunction", "(JLPuddingstoneLine$StepFunction;)J"⟩
def RX4 : String := "PuddingstoneLineModel"
def TX4 : u_T := fun k => match k with
  | 0 => ("PuddingstoneLineModel", "thrown", "I", false)
  | 1 => ("PuddingstoneLineModel", "sets", "[[Z", true)
  | _ => ("PuddingstoneLineModel", "values", "[[I", true)
def tyX4 : Nat → FieldType := fun k => match k with
  | 0 => .int
  | 1 => .array (.array .boolean)
  | _ => .array (.array .int)
abbrev wsX40 : List Cond := u_ws RX4 TX4 3
theorem nmX4 : ∀ a, a < 3 → ∀ b, b < 3 → a ≠ b → (TX4 a).2.1 ≠ (TX4 b).2.1 := by decide +kernel
theorem tyX4_ok : ∀ k, k < 3 → parseFieldDescriptor (TX4 k).2.2.1 = some (tyX4 k) := by decide +kernel
abbrev cX4_init : ByteArray := prog_6_method_1_code
def yX4_init : MethodName := ⟨RX4, "<init>", "()V"⟩
abbrev cX4_thrown : ByteArray := prog_6_method_2_code
def yX4_thrown : MethodName := ⟨RX4, "thrown", "()I"⟩
abbrev cX4_no : ByteArray := prog_6_method_3_code
def yX4_no : MethodName := ⟨RX4, "no", "(I)I"⟩
abbrev cX4_isIn : ByteArray := prog_6_method_4_code
def yX4_isIn : MethodName := ⟨RX4, "isIn", "(III)Z"⟩
abbrev cX4_isSet : ByteArray := prog_6_method_5_code
def yX4_isSet : MethodName := ⟨RX4, "isSet", "(I)Z"⟩
abbrev cX4_isFunction : ByteArray := prog_6_method_6_code
def yX4_isFunction : MethodName := ⟨RX4, "isFunction", "(I)Z"⟩
abbrev cX4_isSpan : ByteArray := prog_6_method_7_code
def yX4_isSpan : MethodName := ⟨RX4, "isSpan", "(III)Z"⟩
abbrev cX4_isWithin : ByteArray := prog_6_method_8_code
def yX4_isWithin : MethodName := ⟨RX4, "isWithin", "(IIII)Z"⟩
abbrev cX4_count : ByteArray := prog_6_method_9_code
def yX4_count : MethodName := ⟨RX4, "count", "([Z)I"⟩
abbrev cX4_first : ByteArray := prog_6_method_10_code
def yX4_first : MethodName := ⟨RX4, "first", "([ZIZ)I"⟩
abbrev cX4_others : ByteArray := prog_6_method_11_code
def yX4_others : MethodName := ⟨RX4, "others", "([Z)[Z"⟩
abbrev cX4_spans : ByteArray := prog_6_method_12_code
def yX4_spans : MethodName := ⟨RX4, "spans", "([Z)I"⟩
abbrev cX4_begin : ByteArray := prog_6_method_13_code
def yX4_begin : MethodName := ⟨RX4, "begin", "([ZI)I"⟩
abbrev cX4_longOf : ByteArray := prog_6_method_14_code
def yX4_longOf : MethodName := ⟨RX4, "longOf", "(II)I"⟩
abbrev cX4_longOf_ : ByteArray := prog_6_method_15_code
def yX4_longOf_ : MethodName := ⟨RX4, "longOf", "([Z)I"⟩
abbrev cX4_longest : ByteArray := prog_6_method_16_code
def yX4_longest : MethodName := ⟨RX4, "longest", "([Z)I"⟩
abbrev cX4_alone : ByteArray := prog_6_method_17_code
def yX4_alone : MethodName := ⟨RX4, "alone", "([Z)I"⟩
abbrev cX4_isAt : ByteArray := prog_6_method_18_code
def yX4_isAt : MethodName := ⟨RX4, "isAt", "([ZI)Z"⟩
abbrev cX4_isAlone : ByteArray := prog_6_method_19_code
def yX4_isAlone : MethodName := ⟨RX4, "isAlone", "([ZI)Z"⟩
abbrev cX4_span : ByteArray := prog_6_method_20_code
def yX4_span : MethodName := ⟨RX4, "span", "(IIIIZ)I"⟩
abbrev cX4_join : ByteArray := prog_6_method_21_code
def yX4_join : MethodName := ⟨RX4, "join", "(IIII)I"⟩
abbrev cX4_changed : ByteArray := prog_6_method_22_code
def yX4_changed : MethodName := ⟨RX4, "changed", "([ZI)[Z"⟩
abbrev cX4_change : ByteArray := prog_6_method_23_code
def yX4_change : MethodName := ⟨RX4, "change", "(II)I"⟩
abbrev cX4_moved : ByteArray := prog_6_method_24_code
def yX4_moved : MethodName := ⟨RX4, "moved", "([ZI)[Z"⟩
abbrev cX4_move : ByteArray := prog_6_method_25_code
def yX4_move : MethodName := ⟨RX4, "move", "(II)I"⟩
abbrev cX4_stretch : ByteArray := prog_6_method_26_code
def yX4_stretch : MethodName := ⟨RX4, "stretch", "(II)I"⟩
abbrev cX4_ofNow : ByteArray := prog_6_method_27_code
def yX4_ofNow : MethodName := ⟨RX4, "ofNow", "(II)I"⟩
abbrev cX4_ofSet : ByteArray := prog_6_method_28_code
def yX4_ofSet : MethodName := ⟨RX4, "ofSet", "(II)I"⟩
abbrev cX4_spanNow : ByteArray := prog_6_method_29_code
def yX4_spanNow : MethodName := ⟨RX4, "spanNow", "(III)I"⟩
abbrev cX4_ofSpan : ByteArray := prog_6_method_30_code
def yX4_ofSpan : MethodName := ⟨RX4, "ofSpan", "(III)I"⟩
abbrev cX4_has : ByteArray := prog_6_method_31_code
def yX4_has : MethodName := ⟨RX4, "has", "(II)Z"⟩
abbrev cX4_far : ByteArray := prog_6_method_32_code
def yX4_far : MethodName := ⟨RX4, "far", "(II)I"⟩
abbrev cX4_beside : ByteArray := prog_6_method_33_code
def yX4_beside : MethodName := ⟨RX4, "beside", "(II)I"⟩
abbrev cX4_kept : ByteArray := prog_6_method_34_code
def yX4_kept : MethodName := ⟨RX4, "kept", "(I)I"⟩
abbrev cX4_steps : ByteArray := prog_6_method_35_code
def yX4_steps : MethodName := ⟨RX4, "steps", "([I)I"⟩
abbrev cX4_raise : ByteArray := prog_6_method_36_code
def yX4_raise : MethodName := ⟨RX4, "raise", "(IIIII)I"⟩
abbrev cX4_set : ByteArray := prog_6_method_37_code
def yX4_set : MethodName := ⟨RX4, "set", "(III)I"⟩
abbrev cX4_mixed : ByteArray := prog_6_method_38_code
def yX4_mixed : MethodName := ⟨RX4, "mixed", "(III)I"⟩
abbrev cX4_mix : ByteArray := prog_6_method_39_code
def yX4_mix : MethodName := ⟨RX4, "mix", "(IIII)I"⟩
abbrev cX4_most : ByteArray := prog_6_method_40_code
def yX4_most : MethodName := ⟨RX4, "most", "([III)I"⟩
abbrev cX4_negated : ByteArray := prog_6_method_41_code
def yX4_negated : MethodName := ⟨RX4, "negated", "([I)[I"⟩
abbrev cX4_sumTo : ByteArray := prog_6_method_42_code
def yX4_sumTo : MethodName := ⟨RX4, "sumTo", "([II)I"⟩
abbrev cX4_turn : ByteArray := prog_6_method_43_code
def yX4_turn : MethodName := ⟨RX4, "turn", "(III)I"⟩
abbrev cX4_thickness : ByteArray := prog_6_method_44_code
def yX4_thickness : MethodName := ⟨RX4, "thickness", "(II)I"⟩
abbrev cX4_thick : ByteArray := prog_6_method_45_code
def yX4_thick : MethodName := ⟨RX4, "thick", "(II)I"⟩
abbrev cX4_where : ByteArray := prog_6_method_46_code
def yX4_where : MethodName := ⟨RX4, "where", "(IIII)I"⟩
abbrev cX4_areaOf : ByteArray := prog_6_method_47_code
def yX4_areaOf : MethodName := ⟨RX4, "areaOf", "([III)I"⟩
abbrev cX4_functionNow : ByteArray := prog_6_method_48_code
def yX4_functionNow : MethodName := ⟨RX4, "functionNow", "(II)I"⟩
abbrev cX4_ofFunction : ByteArray := prog_6_method_49_code
def yX4_ofFunction : MethodName := ⟨RX4, "ofFunction", "(II)I"⟩
abbrev cX4_value : ByteArray := prog_6_method_50_code
def yX4_value : MethodName := ⟨RX4, "value", "(II)I"⟩
abbrev cX4_areaNow : ByteArray := prog_6_method_51_code
def yX4_areaNow : MethodName := ⟨RX4, "areaNow", "(II)I"⟩
abbrev cX4_area : ByteArray := prog_6_method_52_code
def yX4_area : MethodName := ⟨RX4, "area", "(II)I"⟩
abbrev cX4_mean : ByteArray := prog_6_method_53_code
def yX4_mean : MethodName := ⟨RX4, "mean", "(II)D"⟩
abbrev cX4_thickerNow : ByteArray := prog_6_method_54_code
def yX4_thickerNow : MethodName := ⟨RX4, "thickerNow", "(II)I"⟩
abbrev cX4_thicker : ByteArray := prog_6_method_55_code
def yX4_thicker : MethodName := ⟨RX4, "thicker", "(II)I"⟩
abbrev cX4_coverNow : ByteArray := prog_6_method_56_code
def yX4_coverNow : MethodName := ⟨RX4, "coverNow", "(II)[I"⟩
abbrev cX4_size : ByteArray := prog_6_method_57_code
def yX4_size : MethodName := ⟨RX4, "size", "([I)I"⟩
abbrev cX4_cover : ByteArray := prog_6_method_58_code
def yX4_cover : MethodName := ⟨RX4, "cover", "(II)I"⟩
abbrev cX4_covers : ByteArray := prog_6_method_59_code
def yX4_covers : MethodName := ⟨RX4, "covers", "(III)I"⟩
abbrev cX4_pinsNow : ByteArray := prog_6_method_60_code
def yX4_pinsNow : MethodName := ⟨RX4, "pinsNow", "(I)I"⟩
abbrev cX4_beginOf : ByteArray := prog_6_method_61_code
def yX4_beginOf : MethodName := ⟨RX4, "beginOf", "(II)I"⟩
abbrev cX4_apart : ByteArray := prog_6_method_62_code
def yX4_apart : MethodName := ⟨RX4, "apart", "(I)I"⟩
abbrev cX4_pins : ByteArray := prog_6_method_63_code
def yX4_pins : MethodName := ⟨RX4, "pins", "(I)I"⟩
abbrev cX4_both : ByteArray := prog_6_method_64_code
def yX4_both : MethodName := ⟨RX4, "both", "([Z[Z)[Z"⟩
abbrev cX4_meetWith : ByteArray := prog_6_method_65_code
def yX4_meetWith : MethodName := ⟨RX4, "meetWith", "(III)I"⟩
abbrev cX4_isClear : ByteArray := prog_6_method_66_code
def yX4_isClear : MethodName := ⟨RX4, "isClear", "(III)Z"⟩
abbrev cX4_clear : ByteArray := prog_6_method_67_code
def yX4_clear : MethodName := ⟨RX4, "clear", "(II)I"⟩
abbrev cX4_best : ByteArray := prog_6_method_68_code
def yX4_best : MethodName := ⟨RX4, "best", "(II)I"⟩
abbrev cX4_saves : ByteArray := prog_6_method_69_code
def yX4_saves : MethodName := ⟨RX4, "saves", "(III)I"⟩
abbrev cX4_digest : ByteArray := prog_6_method_70_code
def yX4_digest : MethodName := ⟨RX4, "digest", "()J"⟩
def RJ9 : String := "java/lang/Math"
def TJ9 : u_T := fun k => match k with
  | _ => ("", "", "", false)
def tyJ9 : Nat → FieldType := fun k => match k with
  | _ => .int
abbrev wsJ90 : List Cond := u_ws RJ9 TJ9 0
theorem nmJ9 : ∀ a, a < 0 → ∀ b, b < 0 → a ≠ b → (TJ9 a).2.1 ≠ (TJ9 b).2.1 := by decide +kernel
theorem tyJ9_ok : ∀ k, k < 0 → parseFieldDescriptor (TJ9 k).2.2.1 = some (tyJ9 k) := by decide +kernel
abbrev cJ9_max_7cf53 : ByteArray := prog_10_method_65_code
def yJ9_max_7cf53 : MethodName := ⟨RJ9, "max", "(II)I"⟩
abbrev cJ9_min_7cf53 : ByteArray := prog_10_method_69_code
def yJ9_min_7cf53 : MethodName := ⟨RJ9, "min", "(II)I"⟩
def RJ0 : String := "java/lang/String"
def TJ0 : u_T := fun k => match k with
  | _ => ("", "", "", false)
def tyJ0 : Nat → FieldType := fun k => match k with
  | _ => .int
abbrev wsJ00 : List Cond := u_ws RJ0 TJ0 0
theorem nmJ0 : ∀ a, a < 0 → ∀ b, b < 0 → a ≠ b → (TJ0 a).2.1 ≠ (TJ0 b).2.1 := by decide +kernel
theorem tyJ0_ok : ∀ k, k < 0 → parseFieldDescriptor (TJ0 k).2.2.1 = some (tyJ0 k) := by decide +kernel
def RJ10 : String := "java/lang/System"
def TJ10 : u_T := fun k => match k with
  | _ => ("", "", "", false)
def tyJ10 : Nat → FieldType := fun k => match k with
  | _ => .int
abbrev wsJ100 : List Cond := u_ws RJ10 TJ10 0
theorem nmJ10 : ∀ a, a < 0 → ∀ b, b < 0 → a ≠ b → (TJ10 a).2.1 ≠ (TJ10 b).2.1 := by decide +kernel
theorem tyJ10_ok : ∀ k, k < 0 → parseFieldDescriptor (TJ10 k).2.2.1 = some (tyJ10 k) := by decide +kernel
def RL : String := "PuddingstoneLineLaw"
abbrev cL_span : ByteArray := method_3_code
def yL_span : MethodName := ⟨RL, "span", "(LPuddingstoneLine;IIIIZ[J)I"⟩
abbrev cL_join : ByteArray := method_4_code
def yL_join : MethodName := ⟨RL, "join", "(LPuddingstoneLine;IIII[J)I"⟩
abbrev cL_change : ByteArray := method_5_code
def yL_change : MethodName := ⟨RL, "change", "(LPuddingstoneLine;II[J)I"⟩
abbrev cL_move : ByteArray := method_6_code
def yL_move : MethodName := ⟨RL, "move", "(LPuddingstoneLine;II[J)I"⟩
abbrev cL_stretch : ByteArray := method_7_code
def yL_stretch : MethodName := ⟨RL, "stretch", "(LPuddingstoneLine;II[J)I"⟩
abbrev cL_ofSet : ByteArray := method_8_code
def yL_ofSet : MethodName := ⟨RL, "ofSet", "(LPuddingstoneLine;II[J)I"⟩
abbrev cL_ofSpan : ByteArray := method_9_code
def yL_ofSpan : MethodName := ⟨RL, "ofSpan", "(LPuddingstoneLine;III[J)I"⟩
abbrev cL_has : ByteArray := method_10_code
def yL_has : MethodName := ⟨RL, "has", "(LPuddingstoneLine;II[J)I"⟩
abbrev cL_far : ByteArray := method_11_code
def yL_far : MethodName := ⟨RL, "far", "(LPuddingstoneLine;II[J)I"⟩
abbrev cL_beside : ByteArray := method_12_code
def yL_beside : MethodName := ⟨RL, "beside", "(LPuddingstoneLine;II[J)I"⟩
abbrev cL_raise : ByteArray := method_13_code
def yL_raise : MethodName := ⟨RL, "raise", "(LPuddingstoneLine;IIIII[J)I"⟩
abbrev cL_set : ByteArray := method_14_code
def yL_set : MethodName := ⟨RL, "set", "(LPuddingstoneLine;III[J)I"⟩
abbrev cL_mix : ByteArray := method_15_code
def yL_mix : MethodName := ⟨RL, "mix", "(LPuddingstoneLine;IIII[J)I"⟩
abbrev cL_turn : ByteArray := method_16_code
def yL_turn : MethodName := ⟨RL, "turn", "(LPuddingstoneLine;III[J)I"⟩
abbrev cL_thick : ByteArray := method_17_code
def yL_thick : MethodName := ⟨RL, "thick", "(LPuddingstoneLine;II[J)I"⟩
abbrev cL_where : ByteArray := method_18_code
def yL_where : MethodName := ⟨RL, "where", "(LPuddingstoneLine;IIII[J)I"⟩
abbrev cL_ofFunction : ByteArray := method_19_code
def yL_ofFunction : MethodName := ⟨RL, "ofFunction", "(LPuddingstoneLine;II[J)I"⟩
abbrev cL_value : ByteArray := method_20_code
def yL_value : MethodName := ⟨RL, "value", "(LPuddingstoneLine;II[J)I"⟩
abbrev cL_area : ByteArray := method_21_code
def yL_area : MethodName := ⟨RL, "area", "(LPuddingstoneLine;II[J)I"⟩
abbrev cL_mean : ByteArray := method_22_code
def yL_mean : MethodName := ⟨RL, "mean", "(LPuddingstoneLine;II[D)I"⟩
abbrev cL_thicker : ByteArray := method_23_code
def yL_thicker : MethodName := ⟨RL, "thicker", "(LPuddingstoneLine;II[J)I"⟩
abbrev cL_cover : ByteArray := method_24_code
def yL_cover : MethodName := ⟨RL, "cover", "(LPuddingstoneLine;II[J)I"⟩
abbrev cL_covers : ByteArray := method_25_code
def yL_covers : MethodName := ⟨RL, "covers", "(LPuddingstoneLine;III[J)I"⟩
abbrev cL_apart : ByteArray := method_26_code
def yL_apart : MethodName := ⟨RL, "apart", "(LPuddingstoneLine;I[J)I"⟩
abbrev cL_pins : ByteArray := method_27_code
def yL_pins : MethodName := ⟨RL, "pins", "(LPuddingstoneLine;I[J)I"⟩
abbrev cL_meetWith : ByteArray := method_28_code
def yL_meetWith : MethodName := ⟨RL, "meetWith", "(LPuddingstoneLine;III[J)I"⟩
abbrev cL_clear : ByteArray := method_29_code
def yL_clear : MethodName := ⟨RL, "clear", "(LPuddingstoneLine;II[J)I"⟩
abbrev cL_best : ByteArray := method_30_code
def yL_best : MethodName := ⟨RL, "best", "(LPuddingstoneLine;II[J)I"⟩
abbrev cL_saves : ByteArray := method_31_code
def yL_saves : MethodName := ⟨RL, "saves", "(LPuddingstoneLine;III[J)I"⟩
abbrev cL_law : ByteArray := code
def yL_law : MethodName := ⟨RL, "law", "([I)Z"⟩
def wsX0_init : List Cond := .code yX0_init cX0_init 1 none :: ([.methodLink RX0 3 objectInit, .instanceMethod objectInit, .code objectInit ⟨#[0xb1]⟩ 1 none, .arrayClass .boolean, .fieldLink RX0 9 "PuddingstoneLine$GrainSet" "grains" "[Z"] ++ wsX00)
def wsX0_holds : List Cond := .code yX0_holds cX0_holds 2 (some .boolean) :: ([.fieldLink RX0 9 "PuddingstoneLine$GrainSet" "grains" "[Z"] ++ wsX00)
def wsX0_write : List Cond := .code yX0_write cX0_write 3 none :: ([.fieldLink RX0 9 "PuddingstoneLine$GrainSet" "grains" "[Z"] ++ wsX00)
def wsX0_fill : List Cond := .code yX0_fill cX0_fill 6 (some .int) :: ([.methodLink RX0 15 Lib.Math.max.name, .static Lib.Math.max.name, .initialized "java/lang/Math", .code Lib.Math.max.name Lib.Math.max.code 2 (some .int), .methodLink RX0 21 yX0_holds, .instanceMethod yX0_holds, .selects RX0 yX0_holds yX0_holds, .initialized RX0, .code yX0_holds cX0_holds 2 (some .boolean), .fieldLink RX0 9 "PuddingstoneLine$GrainSet" "grains" "[Z", .methodLink RX0 25 yX0_write, .instanceMethod yX0_write, .selects RX0 yX0_write yX0_write, .code yX0_write cX0_write 3 none] ++ wsX00)
def wsX0_copyFrom : List Cond := .code yX0_copyFrom cX0_copyFrom 3 none :: ([.methodLink RX0 21 yX0_holds, .instanceMethod yX0_holds, .selects RX0 yX0_holds yX0_holds, .initialized RX0, .code yX0_holds cX0_holds 2 (some .boolean), .fieldLink RX0 9 "PuddingstoneLine$GrainSet" "grains" "[Z", .methodLink RX0 25 yX0_write, .instanceMethod yX0_write, .selects RX0 yX0_write yX0_write, .code yX0_write cX0_write 3 none] ++ wsX00)
def wsX0_count : List Cond := .code yX0_count cX0_count 3 (some .int) :: ([.methodLink RX0 21 yX0_holds, .instanceMethod yX0_holds, .selects RX0 yX0_holds yX0_holds, .initialized RX0, .code yX0_holds cX0_holds 2 (some .boolean), .fieldLink RX0 9 "PuddingstoneLine$GrainSet" "grains" "[Z"] ++ wsX00)
def wsX0_length : List Cond := .code yX0_length cX0_length 3 (some .int) :: ([.methodLink RX0 21 yX0_holds, .instanceMethod yX0_holds, .selects RX0 yX0_holds yX0_holds, .initialized RX0, .code yX0_holds cX0_holds 2 (some .boolean), .fieldLink RX0 9 "PuddingstoneLine$GrainSet" "grains" "[Z"] ++ wsX00)
def wsX0_isInside : List Cond := .code yX0_isInside cX0_isInside 3 (some .boolean) :: ([.methodLink RX0 21 yX0_holds, .instanceMethod yX0_holds, .selects RX0 yX0_holds yX0_holds, .initialized RX0, .code yX0_holds cX0_holds 2 (some .boolean), .fieldLink RX0 9 "PuddingstoneLine$GrainSet" "grains" "[Z"] ++ wsX00)
def wsX0_firstOfRun : List Cond := .code yX0_firstOfRun cX0_firstOfRun 3 (some .int) :: ([.methodLink RX0 21 yX0_holds, .instanceMethod yX0_holds, .selects RX0 yX0_holds yX0_holds, .initialized RX0, .code yX0_holds cX0_holds 2 (some .boolean), .fieldLink RX0 9 "PuddingstoneLine$GrainSet" "grains" "[Z"] ++ wsX00)
def wsX0_lastOfRun : List Cond := .code yX0_lastOfRun cX0_lastOfRun 3 (some .int) :: ([.methodLink RX0 21 yX0_holds, .instanceMethod yX0_holds, .selects RX0 yX0_holds yX0_holds, .initialized RX0, .code yX0_holds cX0_holds 2 (some .boolean), .fieldLink RX0 9 "PuddingstoneLine$GrainSet" "grains" "[Z"] ++ wsX00)
def wsX0_invert : List Cond := .code yX0_invert cX0_invert 2 none :: ([.methodLink RX0 21 yX0_holds, .instanceMethod yX0_holds, .selects RX0 yX0_holds yX0_holds, .initialized RX0, .code yX0_holds cX0_holds 2 (some .boolean), .fieldLink RX0 9 "PuddingstoneLine$GrainSet" "grains" "[Z", .methodLink RX0 25 yX0_write, .instanceMethod yX0_write, .selects RX0 yX0_write yX0_write, .code yX0_write cX0_write 3 none] ++ wsX00)
def wsX0_dropEdgePoints : List Cond := .code yX0_dropEdgePoints cX0_dropEdgePoints 4 none :: ([.methodLink RX0 21 yX0_holds, .instanceMethod yX0_holds, .selects RX0 yX0_holds yX0_holds, .initialized RX0, .code yX0_holds cX0_holds 2 (some .boolean), .fieldLink RX0 9 "PuddingstoneLine$GrainSet" "grains" "[Z", .methodLink RX0 25 yX0_write, .instanceMethod yX0_write, .selects RX0 yX0_write yX0_write, .code yX0_write cX0_write 3 none] ++ wsX00)
def wsX0_addEdgePoints : List Cond := .code yX0_addEdgePoints cX0_addEdgePoints 2 none :: ([.methodLink RX0 21 yX0_holds, .instanceMethod yX0_holds, .selects RX0 yX0_holds yX0_holds, .initialized RX0, .code yX0_holds cX0_holds 2 (some .boolean), .fieldLink RX0 9 "PuddingstoneLine$GrainSet" "grains" "[Z", .methodLink RX0 25 yX0_write, .instanceMethod yX0_write, .selects RX0 yX0_write yX0_write, .code yX0_write cX0_write 3 none] ++ wsX00)
def wsX0_keepLonePoints : List Cond := .code yX0_keepLonePoints cX0_keepLonePoints 2 none :: ([.methodLink RX0 21 yX0_holds, .instanceMethod yX0_holds, .selects RX0 yX0_holds yX0_holds, .initialized RX0, .code yX0_holds cX0_holds 2 (some .boolean), .fieldLink RX0 9 "PuddingstoneLine$GrainSet" "grains" "[Z", .methodLink RX0 25 yX0_write, .instanceMethod yX0_write, .selects RX0 yX0_write yX0_write, .code yX0_write cX0_write 3 none] ++ wsX00)
def wsX0_mirror : List Cond := .code yX0_mirror cX0_mirror 4 none :: ([.methodLink RX0 21 yX0_holds, .instanceMethod yX0_holds, .selects RX0 yX0_holds yX0_holds, .initialized RX0, .code yX0_holds cX0_holds 2 (some .boolean), .fieldLink RX0 9 "PuddingstoneLine$GrainSet" "grains" "[Z", .methodLink RX0 25 yX0_write, .instanceMethod yX0_write, .selects RX0 yX0_write yX0_write, .code yX0_write cX0_write 3 none] ++ wsX00)
def wsX1_init : List Cond := .code yX1_init cX1_init 1 none :: ([.methodLink RX1 3 objectInit, .instanceMethod objectInit, .code objectInit ⟨#[0xb1]⟩ 1 none, .arrayClass .int, .fieldLink RX1 9 "PuddingstoneLine$SpanRow" "firsts" "[I", .fieldLink RX1 15 "PuddingstoneLine$SpanRow" "lasts" "[I", .fieldLink RX1 18 "PuddingstoneLine$SpanRow" "size" "I"] ++ wsX10)
def wsX1_begin : List Cond := .code yX1_begin cX1_begin 2 none :: ([.fieldLink RX1 18 "PuddingstoneLine$SpanRow" "size" "I", .fieldLink RX1 9 "PuddingstoneLine$SpanRow" "firsts" "[I"] ++ wsX10)
def wsX1_extend : List Cond := .code yX1_extend cX1_extend 2 none :: ([.fieldLink RX1 18 "PuddingstoneLine$SpanRow" "size" "I", .fieldLink RX1 15 "PuddingstoneLine$SpanRow" "lasts" "[I"] ++ wsX10)
def wsX1_readRuns : List Cond := .code yX1_readRuns cX1_readRuns 4 none :: ([.fieldLink RX1 18 "PuddingstoneLine$SpanRow" "size" "I", .methodLink RX1 22 yX0_holds, .instanceMethod yX0_holds, .selects RX0 yX0_holds yX0_holds, .initialized RX0, .code yX0_holds cX0_holds 2 (some .boolean), .fieldLink RX0 9 "PuddingstoneLine$GrainSet" "grains" "[Z", .methodLink RX1 28 yX1_begin, .instanceMethod yX1_begin, .selects RX1 yX1_begin yX1_begin, .initialized RX1, .code yX1_begin cX1_begin 2 none, .fieldLink RX1 9 "PuddingstoneLine$SpanRow" "firsts" "[I", .methodLink RX1 32 yX1_extend, .instanceMethod yX1_extend, .selects RX1 yX1_extend yX1_extend, .code yX1_extend cX1_extend 2 none, .fieldLink RX1 15 "PuddingstoneLine$SpanRow" "lasts" "[I"] ++ wsX10 ++ wsX00)
def wsX1_size : List Cond := .code yX1_size cX1_size 1 (some .int) :: ([.fieldLink RX1 18 "PuddingstoneLine$SpanRow" "size" "I"] ++ wsX10)
def wsX1_first : List Cond := .code yX1_first cX1_first 2 (some .int) :: ([.fieldLink RX1 18 "PuddingstoneLine$SpanRow" "size" "I", .fieldLink RX1 9 "PuddingstoneLine$SpanRow" "firsts" "[I"] ++ wsX10)
def wsX1_last : List Cond := .code yX1_last cX1_last 2 (some .int) :: ([.fieldLink RX1 18 "PuddingstoneLine$SpanRow" "size" "I", .fieldLink RX1 15 "PuddingstoneLine$SpanRow" "lasts" "[I"] ++ wsX10)
def wsX3_isPoint : List Cond := .code yX3_isPoint cX3_isPoint 1 (some .boolean) :: ([])
def wsX1_fact : List Cond := .code yX1_fact cX1_fact 3 (some .int) :: ([.methodLink RX1 39 yX1_first, .instanceMethod yX1_first, .selects RX1 yX1_first yX1_first, .initialized RX1, .code yX1_first cX1_first 2 (some .int), .fieldLink RX1 18 "PuddingstoneLine$SpanRow" "size" "I", .fieldLink RX1 9 "PuddingstoneLine$SpanRow" "firsts" "[I", .methodLink RX1 43 yX1_last, .instanceMethod yX1_last, .selects RX1 yX1_last yX1_last, .code yX1_last cX1_last 2 (some .int), .fieldLink RX1 15 "PuddingstoneLine$SpanRow" "lasts" "[I", .static yX3_isPoint, .initialized RX3, .code yX3_isPoint cX3_isPoint 1 (some .boolean)] ++ wsX10)
def wsX1_length : List Cond := .code yX1_length cX1_length 2 (some .int) :: ([.methodLink RX1 35 yX1_fact, .instanceMethod yX1_fact, .selects RX1 yX1_fact yX1_fact, .initialized RX1, .code yX1_fact cX1_fact 3 (some .int), .methodLink RX1 39 yX1_first, .instanceMethod yX1_first, .selects RX1 yX1_first yX1_first, .code yX1_first cX1_first 2 (some .int), .fieldLink RX1 18 "PuddingstoneLine$SpanRow" "size" "I", .fieldLink RX1 9 "PuddingstoneLine$SpanRow" "firsts" "[I", .methodLink RX1 43 yX1_last, .instanceMethod yX1_last, .selects RX1 yX1_last yX1_last, .code yX1_last cX1_last 2 (some .int), .fieldLink RX1 15 "PuddingstoneLine$SpanRow" "lasts" "[I", .static yX3_isPoint, .initialized RX3, .code yX3_isPoint cX3_isPoint 1 (some .boolean)] ++ wsX10)
def wsX1_lonePoints : List Cond := .code yX1_lonePoints cX1_lonePoints 3 (some .int) :: ([.fieldLink RX1 18 "PuddingstoneLine$SpanRow" "size" "I", .methodLink RX1 49 yX1_length, .instanceMethod yX1_length, .selects RX1 yX1_length yX1_length, .initialized RX1, .code yX1_length cX1_length 2 (some .int), .methodLink RX1 35 yX1_fact, .instanceMethod yX1_fact, .selects RX1 yX1_fact yX1_fact, .code yX1_fact cX1_fact 3 (some .int), .methodLink RX1 39 yX1_first, .instanceMethod yX1_first, .selects RX1 yX1_first yX1_first, .code yX1_first cX1_first 2 (some .int), .fieldLink RX1 9 "PuddingstoneLine$SpanRow" "firsts" "[I", .methodLink RX1 43 yX1_last, .instanceMethod yX1_last, .selects RX1 yX1_last yX1_last, .code yX1_last cX1_last 2 (some .int), .fieldLink RX1 15 "PuddingstoneLine$SpanRow" "lasts" "[I", .static yX3_isPoint, .initialized RX3, .code yX3_isPoint cX3_isPoint 1 (some .boolean)] ++ wsX10)
def wsX1_longest : List Cond := .code yX1_longest cX1_longest 3 (some .int) :: ([.fieldLink RX1 18 "PuddingstoneLine$SpanRow" "size" "I", .methodLink RX1 49 yX1_length, .instanceMethod yX1_length, .selects RX1 yX1_length yX1_length, .initialized RX1, .code yX1_length cX1_length 2 (some .int), .methodLink RX1 35 yX1_fact, .instanceMethod yX1_fact, .selects RX1 yX1_fact yX1_fact, .code yX1_fact cX1_fact 3 (some .int), .methodLink RX1 39 yX1_first, .instanceMethod yX1_first, .selects RX1 yX1_first yX1_first, .code yX1_first cX1_first 2 (some .int), .fieldLink RX1 9 "PuddingstoneLine$SpanRow" "firsts" "[I", .methodLink RX1 43 yX1_last, .instanceMethod yX1_last, .selects RX1 yX1_last yX1_last, .code yX1_last cX1_last 2 (some .int), .fieldLink RX1 15 "PuddingstoneLine$SpanRow" "lasts" "[I", .static yX3_isPoint, .initialized RX3, .code yX3_isPoint cX3_isPoint 1 (some .boolean)] ++ wsX10)
def wsX2_init : List Cond := .code yX2_init cX2_init 1 none :: ([.methodLink RX2 3 objectInit, .instanceMethod objectInit, .code objectInit ⟨#[0xb1]⟩ 1 none, .arrayClass .int, .fieldLink RX2 9 "PuddingstoneLine$StepFunction" "values" "[I"] ++ wsX20)
def wsX2_at : List Cond := .code yX2_at cX2_at 2 (some .int) :: ([.fieldLink RX2 9 "PuddingstoneLine$StepFunction" "values" "[I"] ++ wsX20)
def wsX2_write : List Cond := .code yX2_write cX2_write 3 none :: ([.fieldLink RX2 9 "PuddingstoneLine$StepFunction" "values" "[I", .methodLink RX2 15 Lib.Math.min.name, .static Lib.Math.min.name, .initialized "java/lang/Math", .code Lib.Math.min.name Lib.Math.min.code 2 (some .int), .methodLink RX2 21 Lib.Math.max.name, .static Lib.Math.max.name, .code Lib.Math.max.name Lib.Math.max.code 2 (some .int)] ++ wsX20)
def wsX2_copyFrom : List Cond := .code yX2_copyFrom cX2_copyFrom 3 none :: ([.methodLink RX2 24 yX2_at, .instanceMethod yX2_at, .selects RX2 yX2_at yX2_at, .initialized RX2, .code yX2_at cX2_at 2 (some .int), .fieldLink RX2 9 "PuddingstoneLine$StepFunction" "values" "[I", .methodLink RX2 28 yX2_write, .instanceMethod yX2_write, .selects RX2 yX2_write yX2_write, .code yX2_write cX2_write 3 none, .methodLink RX2 15 Lib.Math.min.name, .static Lib.Math.min.name, .initialized "java/lang/Math", .code Lib.Math.min.name Lib.Math.min.code 2 (some .int), .methodLink RX2 21 Lib.Math.max.name, .static Lib.Math.max.name, .code Lib.Math.max.name Lib.Math.max.code 2 (some .int)] ++ wsX20)
def wsX2_steps : List Cond := .code yX2_steps cX2_steps 3 (some .int) :: ([.methodLink RX2 24 yX2_at, .instanceMethod yX2_at, .selects RX2 yX2_at yX2_at, .initialized RX2, .code yX2_at cX2_at 2 (some .int), .fieldLink RX2 9 "PuddingstoneLine$StepFunction" "values" "[I"] ++ wsX20)
def wsX2_greatest : List Cond := .code yX2_greatest cX2_greatest 5 (some .int) :: ([.methodLink RX2 21 Lib.Math.max.name, .static Lib.Math.max.name, .initialized "java/lang/Math", .code Lib.Math.max.name Lib.Math.max.code 2 (some .int), .methodLink RX2 24 yX2_at, .instanceMethod yX2_at, .selects RX2 yX2_at yX2_at, .initialized RX2, .code yX2_at cX2_at 2 (some .int), .fieldLink RX2 9 "PuddingstoneLine$StepFunction" "values" "[I"] ++ wsX20)
def wsX2_least : List Cond := .code yX2_least cX2_least 5 (some .int) :: ([.methodLink RX2 21 Lib.Math.max.name, .static Lib.Math.max.name, .initialized "java/lang/Math", .code Lib.Math.max.name Lib.Math.max.code 2 (some .int), .methodLink RX2 15 Lib.Math.min.name, .static Lib.Math.min.name, .code Lib.Math.min.name Lib.Math.min.code 2 (some .int), .methodLink RX2 24 yX2_at, .instanceMethod yX2_at, .selects RX2 yX2_at yX2_at, .initialized RX2, .code yX2_at cX2_at 2 (some .int), .fieldLink RX2 9 "PuddingstoneLine$StepFunction" "values" "[I"] ++ wsX20)
def wsX2_firstGreatest : List Cond := .code yX2_firstGreatest cX2_firstGreatest 3 (some .int) :: ([.methodLink RX2 24 yX2_at, .instanceMethod yX2_at, .selects RX2 yX2_at yX2_at, .initialized RX2, .code yX2_at cX2_at 2 (some .int), .fieldLink RX2 9 "PuddingstoneLine$StepFunction" "values" "[I"] ++ wsX20)
def wsX2_negate : List Cond := .code yX2_negate cX2_negate 2 none :: ([.methodLink RX2 24 yX2_at, .instanceMethod yX2_at, .selects RX2 yX2_at yX2_at, .initialized RX2, .code yX2_at cX2_at 2 (some .int), .fieldLink RX2 9 "PuddingstoneLine$StepFunction" "values" "[I", .methodLink RX2 28 yX2_write, .instanceMethod yX2_write, .selects RX2 yX2_write yX2_write, .code yX2_write cX2_write 3 none, .methodLink RX2 15 Lib.Math.min.name, .static Lib.Math.min.name, .initialized "java/lang/Math", .code Lib.Math.min.name Lib.Math.min.code 2 (some .int), .methodLink RX2 21 Lib.Math.max.name, .static Lib.Math.max.name, .code Lib.Math.max.name Lib.Math.max.code 2 (some .int)] ++ wsX20)
def wsX2_climbFromLeft : List Cond := .code yX2_climbFromLeft cX2_climbFromLeft 2 none :: ([.methodLink RX2 21 Lib.Math.max.name, .static Lib.Math.max.name, .initialized "java/lang/Math", .code Lib.Math.max.name Lib.Math.max.code 2 (some .int), .methodLink RX2 24 yX2_at, .instanceMethod yX2_at, .selects RX2 yX2_at yX2_at, .initialized RX2, .code yX2_at cX2_at 2 (some .int), .fieldLink RX2 9 "PuddingstoneLine$StepFunction" "values" "[I", .methodLink RX2 28 yX2_write, .instanceMethod yX2_write, .selects RX2 yX2_write yX2_write, .code yX2_write cX2_write 3 none, .methodLink RX2 15 Lib.Math.min.name, .static Lib.Math.min.name, .code Lib.Math.min.name Lib.Math.min.code 2 (some .int)] ++ wsX20)
def wsX2_climbFromRight : List Cond := .code yX2_climbFromRight cX2_climbFromRight 2 none :: ([.methodLink RX2 21 Lib.Math.max.name, .static Lib.Math.max.name, .initialized "java/lang/Math", .code Lib.Math.max.name Lib.Math.max.code 2 (some .int), .methodLink RX2 24 yX2_at, .instanceMethod yX2_at, .selects RX2 yX2_at yX2_at, .initialized RX2, .code yX2_at cX2_at 2 (some .int), .fieldLink RX2 9 "PuddingstoneLine$StepFunction" "values" "[I", .methodLink RX2 28 yX2_write, .instanceMethod yX2_write, .selects RX2 yX2_write yX2_write, .code yX2_write cX2_write 3 none, .methodLink RX2 15 Lib.Math.min.name, .static Lib.Math.min.name, .code Lib.Math.min.name Lib.Math.min.code 2 (some .int)] ++ wsX20)
def wsX2_addUp : List Cond := .code yX2_addUp cX2_addUp 3 none :: ([.static yX3_isPoint, .initialized RX3, .code yX3_isPoint cX3_isPoint 1 (some .boolean), .methodLink RX2 24 yX2_at, .instanceMethod yX2_at, .selects RX2 yX2_at yX2_at, .initialized RX2, .code yX2_at cX2_at 2 (some .int), .fieldLink RX2 9 "PuddingstoneLine$StepFunction" "values" "[I", .methodLink RX2 28 yX2_write, .instanceMethod yX2_write, .selects RX2 yX2_write yX2_write, .code yX2_write cX2_write 3 none, .methodLink RX2 15 Lib.Math.min.name, .static Lib.Math.min.name, .initialized "java/lang/Math", .code Lib.Math.min.name Lib.Math.min.code 2 (some .int), .methodLink RX2 21 Lib.Math.max.name, .static Lib.Math.max.name, .code Lib.Math.max.name Lib.Math.max.code 2 (some .int)] ++ wsX20)
def wsX2_mirrorOf : List Cond := .code yX2_mirrorOf cX2_mirrorOf 3 none :: ([.methodLink RX2 24 yX2_at, .instanceMethod yX2_at, .selects RX2 yX2_at yX2_at, .initialized RX2, .code yX2_at cX2_at 2 (some .int), .fieldLink RX2 9 "PuddingstoneLine$StepFunction" "values" "[I", .methodLink RX2 28 yX2_write, .instanceMethod yX2_write, .selects RX2 yX2_write yX2_write, .code yX2_write cX2_write 3 none, .methodLink RX2 15 Lib.Math.min.name, .static Lib.Math.min.name, .initialized "java/lang/Math", .code Lib.Math.min.name Lib.Math.min.code 2 (some .int), .methodLink RX2 21 Lib.Math.max.name, .static Lib.Math.max.name, .code Lib.Math.max.name Lib.Math.max.code 2 (some .int)] ++ wsX20)
def wsX2_greatestNear : List Cond := .code yX2_greatestNear cX2_greatestNear 4 none :: ([.methodLink RX2 36 yX2_greatest, .instanceMethod yX2_greatest, .selects RX2 yX2_greatest yX2_greatest, .initialized RX2, .code yX2_greatest cX2_greatest 5 (some .int), .methodLink RX2 21 Lib.Math.max.name, .static Lib.Math.max.name, .initialized "java/lang/Math", .code Lib.Math.max.name Lib.Math.max.code 2 (some .int), .methodLink RX2 24 yX2_at, .instanceMethod yX2_at, .selects RX2 yX2_at yX2_at, .code yX2_at cX2_at 2 (some .int), .fieldLink RX2 9 "PuddingstoneLine$StepFunction" "values" "[I", .methodLink RX2 28 yX2_write, .instanceMethod yX2_write, .selects RX2 yX2_write yX2_write, .code yX2_write cX2_write 3 none, .methodLink RX2 15 Lib.Math.min.name, .static Lib.Math.min.name, .code Lib.Math.min.name Lib.Math.min.code 2 (some .int)] ++ wsX20)
def wsX2_leastNear : List Cond := .code yX2_leastNear cX2_leastNear 4 none :: ([.methodLink RX2 39 yX2_least, .instanceMethod yX2_least, .selects RX2 yX2_least yX2_least, .initialized RX2, .code yX2_least cX2_least 5 (some .int), .methodLink RX2 21 Lib.Math.max.name, .static Lib.Math.max.name, .initialized "java/lang/Math", .code Lib.Math.max.name Lib.Math.max.code 2 (some .int), .methodLink RX2 15 Lib.Math.min.name, .static Lib.Math.min.name, .code Lib.Math.min.name Lib.Math.min.code 2 (some .int), .methodLink RX2 24 yX2_at, .instanceMethod yX2_at, .selects RX2 yX2_at yX2_at, .code yX2_at cX2_at 2 (some .int), .fieldLink RX2 9 "PuddingstoneLine$StepFunction" "values" "[I", .methodLink RX2 28 yX2_write, .instanceMethod yX2_write, .selects RX2 yX2_write yX2_write, .code yX2_write cX2_write 3 none] ++ wsX20)
def wsX3_init_r1 : List Cond := [Cond.methodLink RX3 3 objectInit, Cond.instanceMethod objectInit, Cond.code objectInit ⟨#[0xb1]⟩ 1 none, Cond.classLink RX3 9 RX0, Cond.fieldLink RX3 11 "PuddingstoneLine" "sets" "[LPuddingstoneLine$GrainSet;", Cond.classLink RX3 15 RX2, Cond.fieldLink RX3 17 "PuddingstoneLine" "functions" "[LPuddingstoneLine$StepFunction;", Cond.instantiable RX0 1, Cond.initialized RX0, Cond.fieldLink RX3 22 "PuddingstoneLine" "spareSet" "LPuddingstoneLine$GrainSet;", Cond.instantiable RX2 1, Cond.initialized RX2, Cond.fieldLink RX3 27 "PuddingstoneLine" "spareFunction" "LPuddingstoneLine$StepFunction;", Cond.classLink RX3 31 RX1, Cond.instantiable RX1 3, Cond.initialized RX1, Cond.fieldLink RX3 34 "PuddingstoneLine" "spanRow" "LPuddingstoneLine$SpanRow;", Cond.arrayClass .int, Cond.fieldLink RX3 38 "PuddingstoneLine" "coverSets" "[I", Cond.instanceMethod yX0_init, Cond.code yX0_init cX0_init 1 none, Cond.methodLink RX0 3 objectInit, Cond.arrayClass .boolean, Cond.fieldLink RX0 9 "PuddingstoneLine$GrainSet" "grains" "[Z"]
def wsX3_init_r2 : List Cond := [Cond.instanceMethod yX2_init, Cond.code yX2_init cX2_init 1 none, Cond.methodLink RX2 3 objectInit, Cond.fieldLink RX2 9 "PuddingstoneLine$StepFunction" "values" "[I", Cond.instanceMethod yX1_init, Cond.code yX1_init cX1_init 1 none, Cond.methodLink RX1 3 objectInit, Cond.fieldLink RX1 9 "PuddingstoneLine$SpanRow" "firsts" "[I", Cond.fieldLink RX1 15 "PuddingstoneLine$SpanRow" "lasts" "[I", Cond.fieldLink RX1 18 "PuddingstoneLine$SpanRow" "size" "I"]
def wsX3_init : List Cond := .code yX3_init cX3_init 2 none :: ((wsX3_init_r1 ++ wsX3_init_r2) ++ wsX30 ++ wsX00 ++ wsX20 ++ wsX10)
def wsX3_setOrNull : List Cond := .code yX3_setOrNull cX3_setOrNull 2 (some (.object "PuddingstoneLine$GrainSet")) :: ([.fieldLink RX3 11 "PuddingstoneLine" "sets" "[LPuddingstoneLine$GrainSet;"] ++ wsX30)
def wsX3_setAt : List Cond := .code yX3_setAt cX3_setAt 3 (some (.object "PuddingstoneLine$GrainSet")) :: ([.classLink RX3 115 "java/lang/IndexOutOfBoundsException", .initialized "java/lang/IndexOutOfBoundsException", .methodLink RX3 211 yX3_setOrNull, .instanceMethod yX3_setOrNull, .selects RX3 yX3_setOrNull yX3_setOrNull, .initialized RX3, .code yX3_setOrNull cX3_setOrNull 2 (some (.object "PuddingstoneLine$GrainSet")), .fieldLink RX3 11 "PuddingstoneLine" "sets" "[LPuddingstoneLine$GrainSet;"] ++ wsX30 ++ (vx_atS RX3 119 "java/lang/IndexOutOfBoundsException" ["java/lang/RuntimeException", "java/lang/Exception"]).filter goodWord)
def wsX3_checkChoice : List Cond := .code yX3_checkChoice cX3_checkChoice 2 none :: ([.classLink RX3 93 "java/lang/IllegalArgumentException", .initialized "java/lang/IllegalArgumentException"] ++ (vx_atS RX3 97 "java/lang/IllegalArgumentException" ["java/lang/RuntimeException", "java/lang/Exception"]).filter goodWord)
def wsX3_checkSpan : List Cond := .code yX3_checkSpan cX3_checkSpan 3 none :: ([.classLink RX3 93 "java/lang/IllegalArgumentException", .initialized "java/lang/IllegalArgumentException", .methodLink RX3 61 yX3_checkChoice, .static yX3_checkChoice, .initialized RX3, .code yX3_checkChoice cX3_checkChoice 2 none] ++ (vx_atS RX3 97 "java/lang/IllegalArgumentException" ["java/lang/RuntimeException", "java/lang/Exception"]).filter goodWord)
def wsX3_firstGrain : List Cond := .code yX3_firstGrain cX3_firstGrain 3 (some .int) :: ([])
def wsX3_lastGrain : List Cond := .code yX3_lastGrain cX3_lastGrain 3 (some .int) :: ([])
def wsX3_span_r1 : List Cond := [Cond.methodLink RX3 42 yX3_setAt, Cond.instanceMethod yX3_setAt, Cond.selects RX3 yX3_setAt yX3_setAt, Cond.initialized RX3, Cond.code yX3_setAt cX3_setAt 3 (some (.object "PuddingstoneLine$GrainSet")), Cond.classLink RX3 115 "java/lang/IndexOutOfBoundsException", Cond.initialized "java/lang/IndexOutOfBoundsException", Cond.methodLink RX3 211 yX3_setOrNull, Cond.instanceMethod yX3_setOrNull, Cond.selects RX3 yX3_setOrNull yX3_setOrNull, Cond.code yX3_setOrNull cX3_setOrNull 2 (some (.object "PuddingstoneLine$GrainSet")), Cond.fieldLink RX3 11 "PuddingstoneLine" "sets" "[LPuddingstoneLine$GrainSet;", Cond.methodLink RX3 46 yX3_checkSpan, Cond.static yX3_checkSpan, Cond.code yX3_checkSpan cX3_checkSpan 3 none, Cond.classLink RX3 93 "java/lang/IllegalArgumentException", Cond.initialized "java/lang/IllegalArgumentException", Cond.methodLink RX3 61 yX3_checkChoice, Cond.static yX3_checkChoice, Cond.code yX3_checkChoice cX3_checkChoice 2 none, Cond.methodLink RX3 50 yX3_firstGrain, Cond.static yX3_firstGrain, Cond.code yX3_firstGrain cX3_firstGrain 3 (some .int), Cond.methodLink RX3 54 yX3_lastGrain]
def wsX3_span_r2 : List Cond := [Cond.static yX3_lastGrain, Cond.code yX3_lastGrain cX3_lastGrain 3 (some .int), Cond.methodLink RX3 57 yX0_fill, Cond.instanceMethod yX0_fill, Cond.selects RX0 yX0_fill yX0_fill, Cond.initialized RX0, Cond.code yX0_fill cX0_fill 6 (some .int), Cond.methodLink RX0 15 Lib.Math.max.name, Cond.static Lib.Math.max.name, Cond.initialized "java/lang/Math", Cond.code Lib.Math.max.name Lib.Math.max.code 2 (some .int), Cond.methodLink RX0 21 yX0_holds, Cond.instanceMethod yX0_holds, Cond.selects RX0 yX0_holds yX0_holds, Cond.code yX0_holds cX0_holds 2 (some .boolean), Cond.fieldLink RX0 9 "PuddingstoneLine$GrainSet" "grains" "[Z", Cond.methodLink RX0 25 yX0_write, Cond.instanceMethod yX0_write, Cond.selects RX0 yX0_write yX0_write, Cond.code yX0_write cX0_write 3 none]
def wsX3_span : List Cond := .code yX3_span cX3_span 7 (some .int) :: ((wsX3_span_r1 ++ wsX3_span_r2) ++ wsX30 ++ wsX00 ++ (vx_atS RX3 119 "java/lang/IndexOutOfBoundsException" ["java/lang/RuntimeException", "java/lang/Exception"]).filter goodWord ++ (vx_atS RX3 97 "java/lang/IllegalArgumentException" ["java/lang/RuntimeException", "java/lang/Exception"]).filter goodWord)
def wsX3_isJoined : List Cond := .code yX3_isJoined cX3_isJoined 3 (some .boolean) :: ([])
def wsX3_join_r1 : List Cond := [Cond.methodLink RX3 42 yX3_setAt, Cond.instanceMethod yX3_setAt, Cond.selects RX3 yX3_setAt yX3_setAt, Cond.initialized RX3, Cond.code yX3_setAt cX3_setAt 3 (some (.object "PuddingstoneLine$GrainSet")), Cond.classLink RX3 115 "java/lang/IndexOutOfBoundsException", Cond.initialized "java/lang/IndexOutOfBoundsException", Cond.methodLink RX3 211 yX3_setOrNull, Cond.instanceMethod yX3_setOrNull, Cond.selects RX3 yX3_setOrNull yX3_setOrNull, Cond.code yX3_setOrNull cX3_setOrNull 2 (some (.object "PuddingstoneLine$GrainSet")), Cond.fieldLink RX3 11 "PuddingstoneLine" "sets" "[LPuddingstoneLine$GrainSet;", Cond.methodLink RX3 61 yX3_checkChoice, Cond.static yX3_checkChoice, Cond.code yX3_checkChoice cX3_checkChoice 2 none, Cond.classLink RX3 93 "java/lang/IllegalArgumentException", Cond.initialized "java/lang/IllegalArgumentException", Cond.methodLink RX3 65 yX0_holds, Cond.instanceMethod yX0_holds, Cond.selects RX0 yX0_holds yX0_holds, Cond.initialized RX0, Cond.code yX0_holds cX0_holds 2 (some .boolean), Cond.fieldLink RX0 9 "PuddingstoneLine$GrainSet" "grains" "[Z", Cond.methodLink RX3 69 yX3_isJoined]
def wsX3_join_r2 : List Cond := [Cond.static yX3_isJoined, Cond.code yX3_isJoined cX3_isJoined 3 (some .boolean), Cond.methodLink RX3 73 yX0_write, Cond.instanceMethod yX0_write, Cond.selects RX0 yX0_write yX0_write, Cond.code yX0_write cX0_write 3 none, Cond.methodLink RX3 77 yX0_count, Cond.instanceMethod yX0_count, Cond.selects RX0 yX0_count yX0_count, Cond.code yX0_count cX0_count 3 (some .int), Cond.methodLink RX0 21 yX0_holds]
def wsX3_join : List Cond := .code yX3_join cX3_join 9 (some .int) :: ((wsX3_join_r1 ++ wsX3_join_r2) ++ wsX30 ++ wsX00 ++ (vx_atS RX3 119 "java/lang/IndexOutOfBoundsException" ["java/lang/RuntimeException", "java/lang/Exception"]).filter goodWord ++ (vx_atS RX3 97 "java/lang/IllegalArgumentException" ["java/lang/RuntimeException", "java/lang/Exception"]).filter goodWord)
def wsX3_keepLongest_r1 : List Cond := [Cond.fieldLink RX3 34 "PuddingstoneLine" "spanRow" "LPuddingstoneLine$SpanRow;", Cond.methodLink RX3 108 yX1_readRuns, Cond.instanceMethod yX1_readRuns, Cond.selects RX1 yX1_readRuns yX1_readRuns, Cond.initialized RX1, Cond.code yX1_readRuns cX1_readRuns 4 none, Cond.fieldLink RX1 18 "PuddingstoneLine$SpanRow" "size" "I", Cond.methodLink RX1 22 yX0_holds, Cond.instanceMethod yX0_holds, Cond.selects RX0 yX0_holds yX0_holds, Cond.initialized RX0, Cond.code yX0_holds cX0_holds 2 (some .boolean), Cond.fieldLink RX0 9 "PuddingstoneLine$GrainSet" "grains" "[Z", Cond.methodLink RX1 28 yX1_begin, Cond.instanceMethod yX1_begin, Cond.selects RX1 yX1_begin yX1_begin, Cond.code yX1_begin cX1_begin 2 none, Cond.fieldLink RX1 9 "PuddingstoneLine$SpanRow" "firsts" "[I", Cond.methodLink RX1 32 yX1_extend, Cond.instanceMethod yX1_extend, Cond.selects RX1 yX1_extend yX1_extend, Cond.code yX1_extend cX1_extend 2 none, Cond.fieldLink RX1 15 "PuddingstoneLine$SpanRow" "lasts" "[I", Cond.methodLink RX3 249 yX1_longest]
def wsX3_keepLongest_r2 : List Cond := [Cond.instanceMethod yX1_longest, Cond.selects RX1 yX1_longest yX1_longest, Cond.code yX1_longest cX1_longest 3 (some .int), Cond.methodLink RX1 49 yX1_length, Cond.instanceMethod yX1_length, Cond.selects RX1 yX1_length yX1_length, Cond.code yX1_length cX1_length 2 (some .int), Cond.methodLink RX1 35 yX1_fact, Cond.instanceMethod yX1_fact, Cond.selects RX1 yX1_fact yX1_fact, Cond.code yX1_fact cX1_fact 3 (some .int), Cond.methodLink RX1 39 yX1_first, Cond.instanceMethod yX1_first, Cond.selects RX1 yX1_first yX1_first, Cond.code yX1_first cX1_first 2 (some .int), Cond.methodLink RX1 43 yX1_last, Cond.instanceMethod yX1_last, Cond.selects RX1 yX1_last yX1_last, Cond.code yX1_last cX1_last 2 (some .int), Cond.static yX3_isPoint, Cond.initialized RX3, Cond.code yX3_isPoint cX3_isPoint 1 (some .boolean), Cond.methodLink RX3 57 yX0_fill, Cond.instanceMethod yX0_fill]
def wsX3_keepLongest_r3 : List Cond := [Cond.selects RX0 yX0_fill yX0_fill, Cond.code yX0_fill cX0_fill 6 (some .int), Cond.methodLink RX0 15 Lib.Math.max.name, Cond.static Lib.Math.max.name, Cond.initialized "java/lang/Math", Cond.code Lib.Math.max.name Lib.Math.max.code 2 (some .int), Cond.methodLink RX0 21 yX0_holds, Cond.methodLink RX0 25 yX0_write, Cond.instanceMethod yX0_write, Cond.selects RX0 yX0_write yX0_write, Cond.code yX0_write cX0_write 3 none, Cond.methodLink RX3 252 yX1_first, Cond.methodLink RX3 255 yX1_last]
def wsX3_keepLongest : List Cond := .code yX3_keepLongest cX3_keepLongest 3 none :: ((wsX3_keepLongest_r1 ++ (wsX3_keepLongest_r2 ++ wsX3_keepLongest_r3)) ++ wsX30 ++ wsX10 ++ wsX00)
def wsX3_fillGaps_r1 : List Cond := [Cond.fieldLink RX3 34 "PuddingstoneLine" "spanRow" "LPuddingstoneLine$SpanRow;", Cond.methodLink RX3 108 yX1_readRuns, Cond.instanceMethod yX1_readRuns, Cond.selects RX1 yX1_readRuns yX1_readRuns, Cond.initialized RX1, Cond.code yX1_readRuns cX1_readRuns 4 none, Cond.fieldLink RX1 18 "PuddingstoneLine$SpanRow" "size" "I", Cond.methodLink RX1 22 yX0_holds, Cond.instanceMethod yX0_holds, Cond.selects RX0 yX0_holds yX0_holds, Cond.initialized RX0, Cond.code yX0_holds cX0_holds 2 (some .boolean), Cond.fieldLink RX0 9 "PuddingstoneLine$GrainSet" "grains" "[Z", Cond.methodLink RX1 28 yX1_begin, Cond.instanceMethod yX1_begin, Cond.selects RX1 yX1_begin yX1_begin, Cond.code yX1_begin cX1_begin 2 none, Cond.fieldLink RX1 9 "PuddingstoneLine$SpanRow" "firsts" "[I", Cond.methodLink RX1 32 yX1_extend, Cond.instanceMethod yX1_extend, Cond.selects RX1 yX1_extend yX1_extend, Cond.code yX1_extend cX1_extend 2 none, Cond.fieldLink RX1 15 "PuddingstoneLine$SpanRow" "lasts" "[I", Cond.methodLink RX3 252 yX1_first]
def wsX3_fillGaps_r2 : List Cond := [Cond.instanceMethod yX1_first, Cond.selects RX1 yX1_first yX1_first, Cond.code yX1_first cX1_first 2 (some .int), Cond.methodLink RX3 112 yX1_size, Cond.instanceMethod yX1_size, Cond.selects RX1 yX1_size yX1_size, Cond.code yX1_size cX1_size 1 (some .int), Cond.methodLink RX3 255 yX1_last, Cond.instanceMethod yX1_last, Cond.selects RX1 yX1_last yX1_last, Cond.code yX1_last cX1_last 2 (some .int), Cond.methodLink RX3 57 yX0_fill, Cond.instanceMethod yX0_fill, Cond.selects RX0 yX0_fill yX0_fill, Cond.code yX0_fill cX0_fill 6 (some .int), Cond.methodLink RX0 15 Lib.Math.max.name, Cond.static Lib.Math.max.name, Cond.initialized "java/lang/Math", Cond.code Lib.Math.max.name Lib.Math.max.code 2 (some .int), Cond.methodLink RX0 21 yX0_holds, Cond.methodLink RX0 25 yX0_write, Cond.instanceMethod yX0_write, Cond.selects RX0 yX0_write yX0_write, Cond.code yX0_write cX0_write 3 none]
def wsX3_fillGaps : List Cond := .code yX3_fillGaps cX3_fillGaps 2 none :: ((wsX3_fillGaps_r1 ++ wsX3_fillGaps_r2) ++ wsX30 ++ wsX10 ++ wsX00)
def wsX3_changeSet_r1 : List Cond := [Cond.methodLink RX3 228 yX0_invert, Cond.instanceMethod yX0_invert, Cond.selects RX0 yX0_invert yX0_invert, Cond.initialized RX0, Cond.code yX0_invert cX0_invert 2 none, Cond.methodLink RX0 21 yX0_holds, Cond.instanceMethod yX0_holds, Cond.selects RX0 yX0_holds yX0_holds, Cond.code yX0_holds cX0_holds 2 (some .boolean), Cond.fieldLink RX0 9 "PuddingstoneLine$GrainSet" "grains" "[Z", Cond.methodLink RX0 25 yX0_write, Cond.instanceMethod yX0_write, Cond.selects RX0 yX0_write yX0_write, Cond.code yX0_write cX0_write 3 none, Cond.methodLink RX3 231 yX0_dropEdgePoints, Cond.instanceMethod yX0_dropEdgePoints, Cond.selects RX0 yX0_dropEdgePoints yX0_dropEdgePoints, Cond.code yX0_dropEdgePoints cX0_dropEdgePoints 4 none, Cond.methodLink RX3 234 yX0_addEdgePoints, Cond.instanceMethod yX0_addEdgePoints, Cond.selects RX0 yX0_addEdgePoints yX0_addEdgePoints, Cond.code yX0_addEdgePoints cX0_addEdgePoints 2 none, Cond.methodLink RX3 237 yX0_keepLonePoints, Cond.instanceMethod yX0_keepLonePoints]
def wsX3_changeSet_r2 : List Cond := [Cond.selects RX0 yX0_keepLonePoints yX0_keepLonePoints, Cond.code yX0_keepLonePoints cX0_keepLonePoints 2 none, Cond.methodLink RX3 240 yX0_mirror, Cond.instanceMethod yX0_mirror, Cond.selects RX0 yX0_mirror yX0_mirror, Cond.code yX0_mirror cX0_mirror 4 none, Cond.methodLink RX3 243 yX3_keepLongest, Cond.instanceMethod yX3_keepLongest, Cond.selects RX3 yX3_keepLongest yX3_keepLongest, Cond.initialized RX3, Cond.code yX3_keepLongest cX3_keepLongest 3 none, Cond.fieldLink RX3 34 "PuddingstoneLine" "spanRow" "LPuddingstoneLine$SpanRow;", Cond.methodLink RX3 108 yX1_readRuns, Cond.instanceMethod yX1_readRuns, Cond.selects RX1 yX1_readRuns yX1_readRuns, Cond.initialized RX1, Cond.code yX1_readRuns cX1_readRuns 4 none, Cond.fieldLink RX1 18 "PuddingstoneLine$SpanRow" "size" "I", Cond.methodLink RX1 22 yX0_holds, Cond.methodLink RX1 28 yX1_begin, Cond.instanceMethod yX1_begin, Cond.selects RX1 yX1_begin yX1_begin, Cond.code yX1_begin cX1_begin 2 none, Cond.fieldLink RX1 9 "PuddingstoneLine$SpanRow" "firsts" "[I"]
def wsX3_changeSet_r3 : List Cond := [Cond.methodLink RX1 32 yX1_extend, Cond.instanceMethod yX1_extend, Cond.selects RX1 yX1_extend yX1_extend, Cond.code yX1_extend cX1_extend 2 none, Cond.fieldLink RX1 15 "PuddingstoneLine$SpanRow" "lasts" "[I", Cond.methodLink RX3 249 yX1_longest, Cond.instanceMethod yX1_longest, Cond.selects RX1 yX1_longest yX1_longest, Cond.code yX1_longest cX1_longest 3 (some .int), Cond.methodLink RX1 49 yX1_length, Cond.instanceMethod yX1_length, Cond.selects RX1 yX1_length yX1_length, Cond.code yX1_length cX1_length 2 (some .int), Cond.methodLink RX1 35 yX1_fact, Cond.instanceMethod yX1_fact, Cond.selects RX1 yX1_fact yX1_fact, Cond.code yX1_fact cX1_fact 3 (some .int), Cond.methodLink RX1 39 yX1_first, Cond.instanceMethod yX1_first, Cond.selects RX1 yX1_first yX1_first, Cond.code yX1_first cX1_first 2 (some .int), Cond.methodLink RX1 43 yX1_last, Cond.instanceMethod yX1_last, Cond.selects RX1 yX1_last yX1_last]
def wsX3_changeSet_r4 : List Cond := [Cond.code yX1_last cX1_last 2 (some .int), Cond.static yX3_isPoint, Cond.code yX3_isPoint cX3_isPoint 1 (some .boolean), Cond.methodLink RX3 57 yX0_fill, Cond.instanceMethod yX0_fill, Cond.selects RX0 yX0_fill yX0_fill, Cond.code yX0_fill cX0_fill 6 (some .int), Cond.methodLink RX0 15 Lib.Math.max.name, Cond.static Lib.Math.max.name, Cond.initialized "java/lang/Math", Cond.code Lib.Math.max.name Lib.Math.max.code 2 (some .int), Cond.methodLink RX3 252 yX1_first, Cond.methodLink RX3 255 yX1_last, Cond.methodLink RX3 246 yX3_fillGaps, Cond.instanceMethod yX3_fillGaps, Cond.selects RX3 yX3_fillGaps yX3_fillGaps, Cond.code yX3_fillGaps cX3_fillGaps 2 none, Cond.methodLink RX3 112 yX1_size, Cond.instanceMethod yX1_size, Cond.selects RX1 yX1_size yX1_size, Cond.code yX1_size cX1_size 1 (some .int)]
def wsX3_changeSet : List Cond := .code yX3_changeSet cX3_changeSet 3 none :: ((wsX3_changeSet_r1 ++ (wsX3_changeSet_r2 ++ (wsX3_changeSet_r3 ++ wsX3_changeSet_r4))) ++ wsX00 ++ wsX30 ++ wsX10)
def wsX3_change_r1 : List Cond := [Cond.methodLink RX3 42 yX3_setAt, Cond.instanceMethod yX3_setAt, Cond.selects RX3 yX3_setAt yX3_setAt, Cond.initialized RX3, Cond.code yX3_setAt cX3_setAt 3 (some (.object "PuddingstoneLine$GrainSet")), Cond.classLink RX3 115 "java/lang/IndexOutOfBoundsException", Cond.initialized "java/lang/IndexOutOfBoundsException", Cond.methodLink RX3 211 yX3_setOrNull, Cond.instanceMethod yX3_setOrNull, Cond.selects RX3 yX3_setOrNull yX3_setOrNull, Cond.code yX3_setOrNull cX3_setOrNull 2 (some (.object "PuddingstoneLine$GrainSet")), Cond.fieldLink RX3 11 "PuddingstoneLine" "sets" "[LPuddingstoneLine$GrainSet;", Cond.methodLink RX3 61 yX3_checkChoice, Cond.static yX3_checkChoice, Cond.code yX3_checkChoice cX3_checkChoice 2 none, Cond.classLink RX3 93 "java/lang/IllegalArgumentException", Cond.initialized "java/lang/IllegalArgumentException", Cond.methodLink RX3 81 yX3_changeSet, Cond.instanceMethod yX3_changeSet, Cond.selects RX3 yX3_changeSet yX3_changeSet, Cond.code yX3_changeSet cX3_changeSet 3 none, Cond.methodLink RX3 228 yX0_invert, Cond.instanceMethod yX0_invert, Cond.selects RX0 yX0_invert yX0_invert]
def wsX3_change_r2 : List Cond := [Cond.initialized RX0, Cond.code yX0_invert cX0_invert 2 none, Cond.methodLink RX0 21 yX0_holds, Cond.instanceMethod yX0_holds, Cond.selects RX0 yX0_holds yX0_holds, Cond.code yX0_holds cX0_holds 2 (some .boolean), Cond.fieldLink RX0 9 "PuddingstoneLine$GrainSet" "grains" "[Z", Cond.methodLink RX0 25 yX0_write, Cond.instanceMethod yX0_write, Cond.selects RX0 yX0_write yX0_write, Cond.code yX0_write cX0_write 3 none, Cond.methodLink RX3 231 yX0_dropEdgePoints, Cond.instanceMethod yX0_dropEdgePoints, Cond.selects RX0 yX0_dropEdgePoints yX0_dropEdgePoints, Cond.code yX0_dropEdgePoints cX0_dropEdgePoints 4 none, Cond.methodLink RX3 234 yX0_addEdgePoints, Cond.instanceMethod yX0_addEdgePoints, Cond.selects RX0 yX0_addEdgePoints yX0_addEdgePoints, Cond.code yX0_addEdgePoints cX0_addEdgePoints 2 none, Cond.methodLink RX3 237 yX0_keepLonePoints, Cond.instanceMethod yX0_keepLonePoints, Cond.selects RX0 yX0_keepLonePoints yX0_keepLonePoints, Cond.code yX0_keepLonePoints cX0_keepLonePoints 2 none, Cond.methodLink RX3 240 yX0_mirror]
def wsX3_change_r3 : List Cond := [Cond.instanceMethod yX0_mirror, Cond.selects RX0 yX0_mirror yX0_mirror, Cond.code yX0_mirror cX0_mirror 4 none, Cond.methodLink RX3 243 yX3_keepLongest, Cond.instanceMethod yX3_keepLongest, Cond.selects RX3 yX3_keepLongest yX3_keepLongest, Cond.code yX3_keepLongest cX3_keepLongest 3 none, Cond.fieldLink RX3 34 "PuddingstoneLine" "spanRow" "LPuddingstoneLine$SpanRow;", Cond.methodLink RX3 108 yX1_readRuns, Cond.instanceMethod yX1_readRuns, Cond.selects RX1 yX1_readRuns yX1_readRuns, Cond.initialized RX1, Cond.code yX1_readRuns cX1_readRuns 4 none, Cond.fieldLink RX1 18 "PuddingstoneLine$SpanRow" "size" "I", Cond.methodLink RX1 22 yX0_holds, Cond.methodLink RX1 28 yX1_begin, Cond.instanceMethod yX1_begin, Cond.selects RX1 yX1_begin yX1_begin, Cond.code yX1_begin cX1_begin 2 none, Cond.fieldLink RX1 9 "PuddingstoneLine$SpanRow" "firsts" "[I", Cond.methodLink RX1 32 yX1_extend, Cond.instanceMethod yX1_extend, Cond.selects RX1 yX1_extend yX1_extend, Cond.code yX1_extend cX1_extend 2 none]
def wsX3_change_r4 : List Cond := [Cond.fieldLink RX1 15 "PuddingstoneLine$SpanRow" "lasts" "[I", Cond.methodLink RX3 249 yX1_longest, Cond.instanceMethod yX1_longest, Cond.selects RX1 yX1_longest yX1_longest, Cond.code yX1_longest cX1_longest 3 (some .int), Cond.methodLink RX1 49 yX1_length, Cond.instanceMethod yX1_length, Cond.selects RX1 yX1_length yX1_length, Cond.code yX1_length cX1_length 2 (some .int), Cond.methodLink RX1 35 yX1_fact, Cond.instanceMethod yX1_fact, Cond.selects RX1 yX1_fact yX1_fact, Cond.code yX1_fact cX1_fact 3 (some .int), Cond.methodLink RX1 39 yX1_first, Cond.instanceMethod yX1_first, Cond.selects RX1 yX1_first yX1_first, Cond.code yX1_first cX1_first 2 (some .int), Cond.methodLink RX1 43 yX1_last, Cond.instanceMethod yX1_last, Cond.selects RX1 yX1_last yX1_last, Cond.code yX1_last cX1_last 2 (some .int), Cond.static yX3_isPoint, Cond.code yX3_isPoint cX3_isPoint 1 (some .boolean), Cond.methodLink RX3 57 yX0_fill]
def wsX3_change_r5 : List Cond := [Cond.instanceMethod yX0_fill, Cond.selects RX0 yX0_fill yX0_fill, Cond.code yX0_fill cX0_fill 6 (some .int), Cond.methodLink RX0 15 Lib.Math.max.name, Cond.static Lib.Math.max.name, Cond.initialized "java/lang/Math", Cond.code Lib.Math.max.name Lib.Math.max.code 2 (some .int), Cond.methodLink RX3 252 yX1_first, Cond.methodLink RX3 255 yX1_last, Cond.methodLink RX3 246 yX3_fillGaps, Cond.instanceMethod yX3_fillGaps, Cond.selects RX3 yX3_fillGaps yX3_fillGaps, Cond.code yX3_fillGaps cX3_fillGaps 2 none, Cond.methodLink RX3 112 yX1_size, Cond.instanceMethod yX1_size, Cond.selects RX1 yX1_size yX1_size, Cond.code yX1_size cX1_size 1 (some .int), Cond.methodLink RX3 77 yX0_count, Cond.instanceMethod yX0_count, Cond.selects RX0 yX0_count yX0_count, Cond.code yX0_count cX0_count 3 (some .int)]
def wsX3_change : List Cond := .code yX3_change cX3_change 4 (some .int) :: ((wsX3_change_r1 ++ (wsX3_change_r2 ++ (wsX3_change_r3 ++ (wsX3_change_r4 ++ wsX3_change_r5)))) ++ wsX30 ++ wsX00 ++ wsX10 ++ (vx_atS RX3 119 "java/lang/IndexOutOfBoundsException" ["java/lang/RuntimeException", "java/lang/Exception"]).filter goodWord ++ (vx_atS RX3 97 "java/lang/IllegalArgumentException" ["java/lang/RuntimeException", "java/lang/Exception"]).filter goodWord)
def wsX3_checkMove : List Cond := .code yX3_checkMove cX3_checkMove 1 none :: ([.classLink RX3 93 "java/lang/IllegalArgumentException", .initialized "java/lang/IllegalArgumentException"] ++ (vx_atS RX3 97 "java/lang/IllegalArgumentException" ["java/lang/RuntimeException", "java/lang/Exception"]).filter goodWord)
def wsX3_move_r1 : List Cond := [Cond.fieldLink RX3 22 "PuddingstoneLine" "spareSet" "LPuddingstoneLine$GrainSet;", Cond.methodLink RX3 42 yX3_setAt, Cond.instanceMethod yX3_setAt, Cond.selects RX3 yX3_setAt yX3_setAt, Cond.initialized RX3, Cond.code yX3_setAt cX3_setAt 3 (some (.object "PuddingstoneLine$GrainSet")), Cond.classLink RX3 115 "java/lang/IndexOutOfBoundsException", Cond.initialized "java/lang/IndexOutOfBoundsException", Cond.methodLink RX3 211 yX3_setOrNull, Cond.instanceMethod yX3_setOrNull, Cond.selects RX3 yX3_setOrNull yX3_setOrNull, Cond.code yX3_setOrNull cX3_setOrNull 2 (some (.object "PuddingstoneLine$GrainSet")), Cond.fieldLink RX3 11 "PuddingstoneLine" "sets" "[LPuddingstoneLine$GrainSet;", Cond.methodLink RX3 85 yX3_checkMove, Cond.static yX3_checkMove, Cond.code yX3_checkMove cX3_checkMove 1 none, Cond.classLink RX3 93 "java/lang/IllegalArgumentException", Cond.initialized "java/lang/IllegalArgumentException", Cond.methodLink RX3 89 yX0_copyFrom, Cond.instanceMethod yX0_copyFrom, Cond.selects RX0 yX0_copyFrom yX0_copyFrom, Cond.initialized RX0, Cond.code yX0_copyFrom cX0_copyFrom 3 none, Cond.methodLink RX0 21 yX0_holds]
def wsX3_move_r2 : List Cond := [Cond.instanceMethod yX0_holds, Cond.selects RX0 yX0_holds yX0_holds, Cond.code yX0_holds cX0_holds 2 (some .boolean), Cond.fieldLink RX0 9 "PuddingstoneLine$GrainSet" "grains" "[Z", Cond.methodLink RX0 25 yX0_write, Cond.instanceMethod yX0_write, Cond.selects RX0 yX0_write yX0_write, Cond.code yX0_write cX0_write 3 none, Cond.methodLink RX3 65 yX0_holds, Cond.methodLink RX3 73 yX0_write, Cond.methodLink RX3 77 yX0_count, Cond.instanceMethod yX0_count, Cond.selects RX0 yX0_count yX0_count, Cond.code yX0_count cX0_count 3 (some .int)]
def wsX3_move : List Cond := .code yX3_move cX3_move 5 (some .int) :: ((wsX3_move_r1 ++ wsX3_move_r2) ++ wsX30 ++ wsX00 ++ (vx_atS RX3 119 "java/lang/IndexOutOfBoundsException" ["java/lang/RuntimeException", "java/lang/Exception"]).filter goodWord ++ (vx_atS RX3 97 "java/lang/IllegalArgumentException" ["java/lang/RuntimeException", "java/lang/Exception"]).filter goodWord)
def wsX3_putStretched : List Cond := .code yX3_putStretched cX3_putStretched 3 none :: ([.methodLink RX3 258 yX3_isPoint, .static yX3_isPoint, .initialized RX3, .code yX3_isPoint cX3_isPoint 1 (some .boolean), .methodLink RX3 73 yX0_write, .instanceMethod yX0_write, .selects RX0 yX0_write yX0_write, .initialized RX0, .code yX0_write cX0_write 3 none, .fieldLink RX0 9 "PuddingstoneLine$GrainSet" "grains" "[Z", .methodLink RX3 57 yX0_fill, .instanceMethod yX0_fill, .selects RX0 yX0_fill yX0_fill, .code yX0_fill cX0_fill 6 (some .int), .methodLink RX0 15 Lib.Math.max.name, .static Lib.Math.max.name, .initialized "java/lang/Math", .code Lib.Math.max.name Lib.Math.max.code 2 (some .int), .methodLink RX0 21 yX0_holds, .instanceMethod yX0_holds, .selects RX0 yX0_holds yX0_holds, .code yX0_holds cX0_holds 2 (some .boolean), .methodLink RX0 25 yX0_write] ++ wsX00)
def wsX3_stretch_r1 : List Cond := [Cond.classLink RX3 93 "java/lang/IllegalArgumentException", Cond.initialized "java/lang/IllegalArgumentException", Cond.fieldLink RX3 22 "PuddingstoneLine" "spareSet" "LPuddingstoneLine$GrainSet;", Cond.methodLink RX3 42 yX3_setAt, Cond.instanceMethod yX3_setAt, Cond.selects RX3 yX3_setAt yX3_setAt, Cond.initialized RX3, Cond.code yX3_setAt cX3_setAt 3 (some (.object "PuddingstoneLine$GrainSet")), Cond.classLink RX3 115 "java/lang/IndexOutOfBoundsException", Cond.initialized "java/lang/IndexOutOfBoundsException", Cond.methodLink RX3 211 yX3_setOrNull, Cond.instanceMethod yX3_setOrNull, Cond.selects RX3 yX3_setOrNull yX3_setOrNull, Cond.code yX3_setOrNull cX3_setOrNull 2 (some (.object "PuddingstoneLine$GrainSet")), Cond.fieldLink RX3 11 "PuddingstoneLine" "sets" "[LPuddingstoneLine$GrainSet;", Cond.methodLink RX3 89 yX0_copyFrom, Cond.instanceMethod yX0_copyFrom, Cond.selects RX0 yX0_copyFrom yX0_copyFrom, Cond.initialized RX0, Cond.code yX0_copyFrom cX0_copyFrom 3 none, Cond.methodLink RX0 21 yX0_holds, Cond.instanceMethod yX0_holds, Cond.selects RX0 yX0_holds yX0_holds, Cond.code yX0_holds cX0_holds 2 (some .boolean)]
def wsX3_stretch_r2 : List Cond := [Cond.fieldLink RX0 9 "PuddingstoneLine$GrainSet" "grains" "[Z", Cond.methodLink RX0 25 yX0_write, Cond.instanceMethod yX0_write, Cond.selects RX0 yX0_write yX0_write, Cond.code yX0_write cX0_write 3 none, Cond.methodLink RX3 57 yX0_fill, Cond.instanceMethod yX0_fill, Cond.selects RX0 yX0_fill yX0_fill, Cond.code yX0_fill cX0_fill 6 (some .int), Cond.methodLink RX0 15 Lib.Math.max.name, Cond.static Lib.Math.max.name, Cond.initialized "java/lang/Math", Cond.code Lib.Math.max.name Lib.Math.max.code 2 (some .int), Cond.methodLink RX3 65 yX0_holds, Cond.methodLink RX3 100 yX3_putStretched, Cond.static yX3_putStretched, Cond.code yX3_putStretched cX3_putStretched 3 none, Cond.methodLink RX3 258 yX3_isPoint, Cond.static yX3_isPoint, Cond.code yX3_isPoint cX3_isPoint 1 (some .boolean), Cond.methodLink RX3 73 yX0_write, Cond.methodLink RX3 77 yX0_count, Cond.instanceMethod yX0_count, Cond.selects RX0 yX0_count yX0_count]
def wsX3_stretch_r3 : List Cond := [Cond.code yX0_count cX0_count 3 (some .int)]
def wsX3_stretch : List Cond := .code yX3_stretch cX3_stretch 5 (some .int) :: ((wsX3_stretch_r1 ++ (wsX3_stretch_r2 ++ wsX3_stretch_r3)) ++ wsX30 ++ wsX00 ++ (vx_atS RX3 97 "java/lang/IllegalArgumentException" ["java/lang/RuntimeException", "java/lang/Exception"]).filter goodWord ++ (vx_atS RX3 119 "java/lang/IndexOutOfBoundsException" ["java/lang/RuntimeException", "java/lang/Exception"]).filter goodWord)
def wsX3_factOfSet_r1 : List Cond := [Cond.fieldLink RX3 34 "PuddingstoneLine" "spanRow" "LPuddingstoneLine$SpanRow;", Cond.methodLink RX3 77 yX0_count, Cond.instanceMethod yX0_count, Cond.selects RX0 yX0_count yX0_count, Cond.initialized RX0, Cond.code yX0_count cX0_count 3 (some .int), Cond.methodLink RX0 21 yX0_holds, Cond.instanceMethod yX0_holds, Cond.selects RX0 yX0_holds yX0_holds, Cond.code yX0_holds cX0_holds 2 (some .boolean), Cond.fieldLink RX0 9 "PuddingstoneLine$GrainSet" "grains" "[Z", Cond.methodLink RX3 108 yX1_readRuns, Cond.instanceMethod yX1_readRuns, Cond.selects RX1 yX1_readRuns yX1_readRuns, Cond.initialized RX1, Cond.code yX1_readRuns cX1_readRuns 4 none, Cond.fieldLink RX1 18 "PuddingstoneLine$SpanRow" "size" "I", Cond.methodLink RX1 22 yX0_holds, Cond.methodLink RX1 28 yX1_begin, Cond.instanceMethod yX1_begin, Cond.selects RX1 yX1_begin yX1_begin, Cond.code yX1_begin cX1_begin 2 none, Cond.fieldLink RX1 9 "PuddingstoneLine$SpanRow" "firsts" "[I", Cond.methodLink RX1 32 yX1_extend]
def wsX3_factOfSet_r2 : List Cond := [Cond.instanceMethod yX1_extend, Cond.selects RX1 yX1_extend yX1_extend, Cond.code yX1_extend cX1_extend 2 none, Cond.fieldLink RX1 15 "PuddingstoneLine$SpanRow" "lasts" "[I", Cond.methodLink RX3 112 yX1_size, Cond.instanceMethod yX1_size, Cond.selects RX1 yX1_size yX1_size, Cond.code yX1_size cX1_size 1 (some .int), Cond.methodLink RX3 175 yX0_length, Cond.instanceMethod yX0_length, Cond.selects RX0 yX0_length yX0_length, Cond.code yX0_length cX0_length 3 (some .int), Cond.methodLink RX3 261 yX1_lonePoints, Cond.instanceMethod yX1_lonePoints, Cond.selects RX1 yX1_lonePoints yX1_lonePoints, Cond.code yX1_lonePoints cX1_lonePoints 3 (some .int), Cond.methodLink RX1 49 yX1_length, Cond.instanceMethod yX1_length, Cond.selects RX1 yX1_length yX1_length, Cond.code yX1_length cX1_length 2 (some .int), Cond.methodLink RX1 35 yX1_fact, Cond.instanceMethod yX1_fact, Cond.selects RX1 yX1_fact yX1_fact, Cond.code yX1_fact cX1_fact 3 (some .int)]
def wsX3_factOfSet_r3 : List Cond := [Cond.methodLink RX1 39 yX1_first, Cond.instanceMethod yX1_first, Cond.selects RX1 yX1_first yX1_first, Cond.code yX1_first cX1_first 2 (some .int), Cond.methodLink RX1 43 yX1_last, Cond.instanceMethod yX1_last, Cond.selects RX1 yX1_last yX1_last, Cond.code yX1_last cX1_last 2 (some .int), Cond.static yX3_isPoint, Cond.initialized RX3, Cond.code yX3_isPoint cX3_isPoint 1 (some .boolean), Cond.methodLink RX3 249 yX1_longest, Cond.instanceMethod yX1_longest, Cond.selects RX1 yX1_longest yX1_longest, Cond.code yX1_longest cX1_longest 3 (some .int), Cond.methodLink RX3 264 yX1_length]
def wsX3_factOfSet : List Cond := .code yX3_factOfSet cX3_factOfSet 3 (some .int) :: ((wsX3_factOfSet_r1 ++ (wsX3_factOfSet_r2 ++ wsX3_factOfSet_r3)) ++ wsX30 ++ wsX00 ++ wsX10)
def wsX3_ofSet_r1 : List Cond := [Cond.methodLink RX3 42 yX3_setAt, Cond.instanceMethod yX3_setAt, Cond.selects RX3 yX3_setAt yX3_setAt, Cond.initialized RX3, Cond.code yX3_setAt cX3_setAt 3 (some (.object "PuddingstoneLine$GrainSet")), Cond.classLink RX3 115 "java/lang/IndexOutOfBoundsException", Cond.initialized "java/lang/IndexOutOfBoundsException", Cond.methodLink RX3 211 yX3_setOrNull, Cond.instanceMethod yX3_setOrNull, Cond.selects RX3 yX3_setOrNull yX3_setOrNull, Cond.code yX3_setOrNull cX3_setOrNull 2 (some (.object "PuddingstoneLine$GrainSet")), Cond.fieldLink RX3 11 "PuddingstoneLine" "sets" "[LPuddingstoneLine$GrainSet;", Cond.methodLink RX3 61 yX3_checkChoice, Cond.static yX3_checkChoice, Cond.code yX3_checkChoice cX3_checkChoice 2 none, Cond.classLink RX3 93 "java/lang/IllegalArgumentException", Cond.initialized "java/lang/IllegalArgumentException", Cond.methodLink RX3 104 yX3_factOfSet, Cond.instanceMethod yX3_factOfSet, Cond.selects RX3 yX3_factOfSet yX3_factOfSet, Cond.code yX3_factOfSet cX3_factOfSet 3 (some .int), Cond.fieldLink RX3 34 "PuddingstoneLine" "spanRow" "LPuddingstoneLine$SpanRow;", Cond.methodLink RX3 77 yX0_count, Cond.instanceMethod yX0_count]
def wsX3_ofSet_r2 : List Cond := [Cond.selects RX0 yX0_count yX0_count, Cond.initialized RX0, Cond.code yX0_count cX0_count 3 (some .int), Cond.methodLink RX0 21 yX0_holds, Cond.instanceMethod yX0_holds, Cond.selects RX0 yX0_holds yX0_holds, Cond.code yX0_holds cX0_holds 2 (some .boolean), Cond.fieldLink RX0 9 "PuddingstoneLine$GrainSet" "grains" "[Z", Cond.methodLink RX3 108 yX1_readRuns, Cond.instanceMethod yX1_readRuns, Cond.selects RX1 yX1_readRuns yX1_readRuns, Cond.initialized RX1, Cond.code yX1_readRuns cX1_readRuns 4 none, Cond.fieldLink RX1 18 "PuddingstoneLine$SpanRow" "size" "I", Cond.methodLink RX1 22 yX0_holds, Cond.methodLink RX1 28 yX1_begin, Cond.instanceMethod yX1_begin, Cond.selects RX1 yX1_begin yX1_begin, Cond.code yX1_begin cX1_begin 2 none, Cond.fieldLink RX1 9 "PuddingstoneLine$SpanRow" "firsts" "[I", Cond.methodLink RX1 32 yX1_extend, Cond.instanceMethod yX1_extend, Cond.selects RX1 yX1_extend yX1_extend, Cond.code yX1_extend cX1_extend 2 none]
def wsX3_ofSet_r3 : List Cond := [Cond.fieldLink RX1 15 "PuddingstoneLine$SpanRow" "lasts" "[I", Cond.methodLink RX3 112 yX1_size, Cond.instanceMethod yX1_size, Cond.selects RX1 yX1_size yX1_size, Cond.code yX1_size cX1_size 1 (some .int), Cond.methodLink RX3 175 yX0_length, Cond.instanceMethod yX0_length, Cond.selects RX0 yX0_length yX0_length, Cond.code yX0_length cX0_length 3 (some .int), Cond.methodLink RX3 261 yX1_lonePoints, Cond.instanceMethod yX1_lonePoints, Cond.selects RX1 yX1_lonePoints yX1_lonePoints, Cond.code yX1_lonePoints cX1_lonePoints 3 (some .int), Cond.methodLink RX1 49 yX1_length, Cond.instanceMethod yX1_length, Cond.selects RX1 yX1_length yX1_length, Cond.code yX1_length cX1_length 2 (some .int), Cond.methodLink RX1 35 yX1_fact, Cond.instanceMethod yX1_fact, Cond.selects RX1 yX1_fact yX1_fact, Cond.code yX1_fact cX1_fact 3 (some .int), Cond.methodLink RX1 39 yX1_first, Cond.instanceMethod yX1_first, Cond.selects RX1 yX1_first yX1_first]
def wsX3_ofSet_r4 : List Cond := [Cond.code yX1_first cX1_first 2 (some .int), Cond.methodLink RX1 43 yX1_last, Cond.instanceMethod yX1_last, Cond.selects RX1 yX1_last yX1_last, Cond.code yX1_last cX1_last 2 (some .int), Cond.static yX3_isPoint, Cond.code yX3_isPoint cX3_isPoint 1 (some .boolean), Cond.methodLink RX3 249 yX1_longest, Cond.instanceMethod yX1_longest, Cond.selects RX1 yX1_longest yX1_longest, Cond.code yX1_longest cX1_longest 3 (some .int), Cond.methodLink RX3 264 yX1_length]
def wsX3_ofSet : List Cond := .code yX3_ofSet cX3_ofSet 4 (some .int) :: ((wsX3_ofSet_r1 ++ (wsX3_ofSet_r2 ++ (wsX3_ofSet_r3 ++ wsX3_ofSet_r4))) ++ wsX30 ++ wsX00 ++ wsX10 ++ (vx_atS RX3 119 "java/lang/IndexOutOfBoundsException" ["java/lang/RuntimeException", "java/lang/Exception"]).filter goodWord ++ (vx_atS RX3 97 "java/lang/IllegalArgumentException" ["java/lang/RuntimeException", "java/lang/Exception"]).filter goodWord)
def wsX3_ofSpan_r1 : List Cond := [Cond.classLink RX3 115 "java/lang/IndexOutOfBoundsException", Cond.initialized "java/lang/IndexOutOfBoundsException", Cond.fieldLink RX3 34 "PuddingstoneLine" "spanRow" "LPuddingstoneLine$SpanRow;", Cond.methodLink RX3 42 yX3_setAt, Cond.instanceMethod yX3_setAt, Cond.selects RX3 yX3_setAt yX3_setAt, Cond.initialized RX3, Cond.code yX3_setAt cX3_setAt 3 (some (.object "PuddingstoneLine$GrainSet")), Cond.methodLink RX3 211 yX3_setOrNull, Cond.instanceMethod yX3_setOrNull, Cond.selects RX3 yX3_setOrNull yX3_setOrNull, Cond.code yX3_setOrNull cX3_setOrNull 2 (some (.object "PuddingstoneLine$GrainSet")), Cond.fieldLink RX3 11 "PuddingstoneLine" "sets" "[LPuddingstoneLine$GrainSet;", Cond.methodLink RX3 108 yX1_readRuns, Cond.instanceMethod yX1_readRuns, Cond.selects RX1 yX1_readRuns yX1_readRuns, Cond.initialized RX1, Cond.code yX1_readRuns cX1_readRuns 4 none, Cond.fieldLink RX1 18 "PuddingstoneLine$SpanRow" "size" "I", Cond.methodLink RX1 22 yX0_holds, Cond.instanceMethod yX0_holds, Cond.selects RX0 yX0_holds yX0_holds, Cond.initialized RX0, Cond.code yX0_holds cX0_holds 2 (some .boolean)]
def wsX3_ofSpan_r2 : List Cond := [Cond.fieldLink RX0 9 "PuddingstoneLine$GrainSet" "grains" "[Z", Cond.methodLink RX1 28 yX1_begin, Cond.instanceMethod yX1_begin, Cond.selects RX1 yX1_begin yX1_begin, Cond.code yX1_begin cX1_begin 2 none, Cond.fieldLink RX1 9 "PuddingstoneLine$SpanRow" "firsts" "[I", Cond.methodLink RX1 32 yX1_extend, Cond.instanceMethod yX1_extend, Cond.selects RX1 yX1_extend yX1_extend, Cond.code yX1_extend cX1_extend 2 none, Cond.fieldLink RX1 15 "PuddingstoneLine$SpanRow" "lasts" "[I", Cond.methodLink RX3 112 yX1_size, Cond.instanceMethod yX1_size, Cond.selects RX1 yX1_size yX1_size, Cond.code yX1_size cX1_size 1 (some .int), Cond.methodLink RX3 61 yX3_checkChoice, Cond.static yX3_checkChoice, Cond.code yX3_checkChoice cX3_checkChoice 2 none, Cond.classLink RX3 93 "java/lang/IllegalArgumentException", Cond.initialized "java/lang/IllegalArgumentException", Cond.methodLink RX3 120 yX1_fact, Cond.instanceMethod yX1_fact, Cond.selects RX1 yX1_fact yX1_fact, Cond.code yX1_fact cX1_fact 3 (some .int)]
def wsX3_ofSpan_r3 : List Cond := [Cond.methodLink RX1 39 yX1_first, Cond.instanceMethod yX1_first, Cond.selects RX1 yX1_first yX1_first, Cond.code yX1_first cX1_first 2 (some .int), Cond.methodLink RX1 43 yX1_last, Cond.instanceMethod yX1_last, Cond.selects RX1 yX1_last yX1_last, Cond.code yX1_last cX1_last 2 (some .int), Cond.static yX3_isPoint, Cond.code yX3_isPoint cX3_isPoint 1 (some .boolean)]
def wsX3_ofSpan : List Cond := .code yX3_ofSpan cX3_ofSpan 4 (some .int) :: ((wsX3_ofSpan_r1 ++ (wsX3_ofSpan_r2 ++ wsX3_ofSpan_r3)) ++ wsX30 ++ wsX10 ++ wsX00 ++ (vx_atS RX3 119 "java/lang/IndexOutOfBoundsException" ["java/lang/RuntimeException", "java/lang/Exception"]).filter goodWord ++ (vx_atS RX3 97 "java/lang/IllegalArgumentException" ["java/lang/RuntimeException", "java/lang/Exception"]).filter goodWord)
def wsX3_checkGrain : List Cond := .code yX3_checkGrain cX3_checkGrain 1 none :: ([.classLink RX3 115 "java/lang/IndexOutOfBoundsException", .initialized "java/lang/IndexOutOfBoundsException"] ++ (vx_atS RX3 119 "java/lang/IndexOutOfBoundsException" ["java/lang/RuntimeException", "java/lang/Exception"]).filter goodWord)
def wsX3_has : List Cond := .code yX3_has cX3_has 4 (some .boolean) :: ([.methodLink RX3 42 yX3_setAt, .instanceMethod yX3_setAt, .selects RX3 yX3_setAt yX3_setAt, .initialized RX3, .code yX3_setAt cX3_setAt 3 (some (.object "PuddingstoneLine$GrainSet")), .classLink RX3 115 "java/lang/IndexOutOfBoundsException", .initialized "java/lang/IndexOutOfBoundsException", .methodLink RX3 211 yX3_setOrNull, .instanceMethod yX3_setOrNull, .selects RX3 yX3_setOrNull yX3_setOrNull, .code yX3_setOrNull cX3_setOrNull 2 (some (.object "PuddingstoneLine$GrainSet")), .fieldLink RX3 11 "PuddingstoneLine" "sets" "[LPuddingstoneLine$GrainSet;", .methodLink RX3 124 yX3_checkGrain, .static yX3_checkGrain, .code yX3_checkGrain cX3_checkGrain 1 none, .methodLink RX3 65 yX0_holds, .instanceMethod yX0_holds, .selects RX0 yX0_holds yX0_holds, .initialized RX0, .code yX0_holds cX0_holds 2 (some .boolean), .fieldLink RX0 9 "PuddingstoneLine$GrainSet" "grains" "[Z"] ++ wsX30 ++ wsX00 ++ (vx_atS RX3 119 "java/lang/IndexOutOfBoundsException" ["java/lang/RuntimeException", "java/lang/Exception"]).filter goodWord)
def wsX3_far : List Cond := .code yX3_far cX3_far 5 (some .int) :: ([.methodLink RX3 42 yX3_setAt, .instanceMethod yX3_setAt, .selects RX3 yX3_setAt yX3_setAt, .initialized RX3, .code yX3_setAt cX3_setAt 3 (some (.object "PuddingstoneLine$GrainSet")), .classLink RX3 115 "java/lang/IndexOutOfBoundsException", .initialized "java/lang/IndexOutOfBoundsException", .methodLink RX3 211 yX3_setOrNull, .instanceMethod yX3_setOrNull, .selects RX3 yX3_setOrNull yX3_setOrNull, .code yX3_setOrNull cX3_setOrNull 2 (some (.object "PuddingstoneLine$GrainSet")), .fieldLink RX3 11 "PuddingstoneLine" "sets" "[LPuddingstoneLine$GrainSet;", .methodLink RX3 124 yX3_checkGrain, .static yX3_checkGrain, .code yX3_checkGrain cX3_checkGrain 1 none, .methodLink RX3 65 yX0_holds, .instanceMethod yX0_holds, .selects RX0 yX0_holds yX0_holds, .initialized RX0, .code yX0_holds cX0_holds 2 (some .boolean), .fieldLink RX0 9 "PuddingstoneLine$GrainSet" "grains" "[Z"] ++ wsX30 ++ wsX00 ++ (vx_atS RX3 119 "java/lang/IndexOutOfBoundsException" ["java/lang/RuntimeException", "java/lang/Exception"]).filter goodWord)
def wsX3_canLie : List Cond := .code yX3_canLie cX3_canLie 5 (some .boolean) :: ([.methodLink RX3 65 yX0_holds, .instanceMethod yX0_holds, .selects RX0 yX0_holds yX0_holds, .initialized RX0, .code yX0_holds cX0_holds 2 (some .boolean), .fieldLink RX0 9 "PuddingstoneLine$GrainSet" "grains" "[Z"] ++ wsX00)
def wsX3_beside_r1 : List Cond := [Cond.methodLink RX3 42 yX3_setAt, Cond.instanceMethod yX3_setAt, Cond.selects RX3 yX3_setAt yX3_setAt, Cond.initialized RX3, Cond.code yX3_setAt cX3_setAt 3 (some (.object "PuddingstoneLine$GrainSet")), Cond.classLink RX3 115 "java/lang/IndexOutOfBoundsException", Cond.initialized "java/lang/IndexOutOfBoundsException", Cond.methodLink RX3 211 yX3_setOrNull, Cond.instanceMethod yX3_setOrNull, Cond.selects RX3 yX3_setOrNull yX3_setOrNull, Cond.code yX3_setOrNull cX3_setOrNull 2 (some (.object "PuddingstoneLine$GrainSet")), Cond.fieldLink RX3 11 "PuddingstoneLine" "sets" "[LPuddingstoneLine$GrainSet;", Cond.methodLink RX3 127 yX0_isInside, Cond.instanceMethod yX0_isInside, Cond.selects RX0 yX0_isInside yX0_isInside, Cond.initialized RX0, Cond.code yX0_isInside cX0_isInside 3 (some .boolean), Cond.methodLink RX0 21 yX0_holds, Cond.instanceMethod yX0_holds, Cond.selects RX0 yX0_holds yX0_holds, Cond.code yX0_holds cX0_holds 2 (some .boolean), Cond.fieldLink RX0 9 "PuddingstoneLine$GrainSet" "grains" "[Z", Cond.methodLink RX3 131 yX3_canLie, Cond.static yX3_canLie]
def wsX3_beside_r2 : List Cond := [Cond.code yX3_canLie cX3_canLie 5 (some .boolean), Cond.methodLink RX3 65 yX0_holds]
def wsX3_beside : List Cond := .code yX3_beside cX3_beside 7 (some .int) :: ((wsX3_beside_r1 ++ wsX3_beside_r2) ++ wsX30 ++ wsX00 ++ (vx_atS RX3 119 "java/lang/IndexOutOfBoundsException" ["java/lang/RuntimeException", "java/lang/Exception"]).filter goodWord)
def wsX3_functionAt : List Cond := .code yX3_functionAt cX3_functionAt 3 (some (.object "PuddingstoneLine$StepFunction")) :: ([.classLink RX3 115 "java/lang/IndexOutOfBoundsException", .initialized "java/lang/IndexOutOfBoundsException", .fieldLink RX3 17 "PuddingstoneLine" "functions" "[LPuddingstoneLine$StepFunction;"] ++ wsX30 ++ (vx_atS RX3 119 "java/lang/IndexOutOfBoundsException" ["java/lang/RuntimeException", "java/lang/Exception"]).filter goodWord)
def wsX3_raise_r1 : List Cond := [Cond.classLink RX3 93 "java/lang/IllegalArgumentException", Cond.initialized "java/lang/IllegalArgumentException", Cond.methodLink RX3 135 yX3_functionAt, Cond.instanceMethod yX3_functionAt, Cond.selects RX3 yX3_functionAt yX3_functionAt, Cond.initialized RX3, Cond.code yX3_functionAt cX3_functionAt 3 (some (.object "PuddingstoneLine$StepFunction")), Cond.classLink RX3 115 "java/lang/IndexOutOfBoundsException", Cond.initialized "java/lang/IndexOutOfBoundsException", Cond.fieldLink RX3 17 "PuddingstoneLine" "functions" "[LPuddingstoneLine$StepFunction;", Cond.methodLink RX3 46 yX3_checkSpan, Cond.static yX3_checkSpan, Cond.code yX3_checkSpan cX3_checkSpan 3 none, Cond.methodLink RX3 61 yX3_checkChoice, Cond.static yX3_checkChoice, Cond.code yX3_checkChoice cX3_checkChoice 2 none, Cond.methodLink RX3 54 yX3_lastGrain, Cond.static yX3_lastGrain, Cond.code yX3_lastGrain cX3_lastGrain 3 (some .int), Cond.methodLink RX3 50 yX3_firstGrain, Cond.static yX3_firstGrain, Cond.code yX3_firstGrain cX3_firstGrain 3 (some .int), Cond.methodLink RX3 141 yX2_at, Cond.instanceMethod yX2_at]
def wsX3_raise_r2 : List Cond := [Cond.selects RX2 yX2_at yX2_at, Cond.initialized RX2, Cond.code yX2_at cX2_at 2 (some .int), Cond.fieldLink RX2 9 "PuddingstoneLine$StepFunction" "values" "[I", Cond.methodLink RX3 145 yX2_write, Cond.instanceMethod yX2_write, Cond.selects RX2 yX2_write yX2_write, Cond.code yX2_write cX2_write 3 none, Cond.methodLink RX2 15 Lib.Math.min.name, Cond.static Lib.Math.min.name, Cond.initialized "java/lang/Math", Cond.code Lib.Math.min.name Lib.Math.min.code 2 (some .int), Cond.methodLink RX2 21 Lib.Math.max.name, Cond.static Lib.Math.max.name, Cond.code Lib.Math.max.name Lib.Math.max.code 2 (some .int), Cond.methodLink RX3 147 yX2_steps, Cond.instanceMethod yX2_steps, Cond.selects RX2 yX2_steps yX2_steps, Cond.code yX2_steps cX2_steps 3 (some .int), Cond.methodLink RX2 24 yX2_at]
def wsX3_raise : List Cond := .code yX3_raise cX3_raise 9 (some .int) :: ((wsX3_raise_r1 ++ wsX3_raise_r2) ++ wsX30 ++ wsX20 ++ (vx_atS RX3 97 "java/lang/IllegalArgumentException" ["java/lang/RuntimeException", "java/lang/Exception"]).filter goodWord ++ (vx_atS RX3 119 "java/lang/IndexOutOfBoundsException" ["java/lang/RuntimeException", "java/lang/Exception"]).filter goodWord)
def wsX3_set_r1 : List Cond := [Cond.classLink RX3 93 "java/lang/IllegalArgumentException", Cond.initialized "java/lang/IllegalArgumentException", Cond.methodLink RX3 135 yX3_functionAt, Cond.instanceMethod yX3_functionAt, Cond.selects RX3 yX3_functionAt yX3_functionAt, Cond.initialized RX3, Cond.code yX3_functionAt cX3_functionAt 3 (some (.object "PuddingstoneLine$StepFunction")), Cond.classLink RX3 115 "java/lang/IndexOutOfBoundsException", Cond.initialized "java/lang/IndexOutOfBoundsException", Cond.fieldLink RX3 17 "PuddingstoneLine" "functions" "[LPuddingstoneLine$StepFunction;", Cond.methodLink RX3 42 yX3_setAt, Cond.instanceMethod yX3_setAt, Cond.selects RX3 yX3_setAt yX3_setAt, Cond.code yX3_setAt cX3_setAt 3 (some (.object "PuddingstoneLine$GrainSet")), Cond.methodLink RX3 211 yX3_setOrNull, Cond.instanceMethod yX3_setOrNull, Cond.selects RX3 yX3_setOrNull yX3_setOrNull, Cond.code yX3_setOrNull cX3_setOrNull 2 (some (.object "PuddingstoneLine$GrainSet")), Cond.fieldLink RX3 11 "PuddingstoneLine" "sets" "[LPuddingstoneLine$GrainSet;", Cond.methodLink RX3 65 yX0_holds, Cond.instanceMethod yX0_holds, Cond.selects RX0 yX0_holds yX0_holds, Cond.initialized RX0, Cond.code yX0_holds cX0_holds 2 (some .boolean)]
def wsX3_set_r2 : List Cond := [Cond.fieldLink RX0 9 "PuddingstoneLine$GrainSet" "grains" "[Z", Cond.methodLink RX3 145 yX2_write, Cond.instanceMethod yX2_write, Cond.selects RX2 yX2_write yX2_write, Cond.initialized RX2, Cond.code yX2_write cX2_write 3 none, Cond.fieldLink RX2 9 "PuddingstoneLine$StepFunction" "values" "[I", Cond.methodLink RX2 15 Lib.Math.min.name, Cond.static Lib.Math.min.name, Cond.initialized "java/lang/Math", Cond.code Lib.Math.min.name Lib.Math.min.code 2 (some .int), Cond.methodLink RX2 21 Lib.Math.max.name, Cond.static Lib.Math.max.name, Cond.code Lib.Math.max.name Lib.Math.max.code 2 (some .int), Cond.methodLink RX3 147 yX2_steps, Cond.instanceMethod yX2_steps, Cond.selects RX2 yX2_steps yX2_steps, Cond.code yX2_steps cX2_steps 3 (some .int), Cond.methodLink RX2 24 yX2_at, Cond.instanceMethod yX2_at, Cond.selects RX2 yX2_at yX2_at, Cond.code yX2_at cX2_at 2 (some .int)]
def wsX3_set : List Cond := .code yX3_set cX3_set 7 (some .int) :: ((wsX3_set_r1 ++ wsX3_set_r2) ++ wsX30 ++ wsX00 ++ wsX20 ++ (vx_atS RX3 97 "java/lang/IllegalArgumentException" ["java/lang/RuntimeException", "java/lang/Exception"]).filter goodWord ++ (vx_atS RX3 119 "java/lang/IndexOutOfBoundsException" ["java/lang/RuntimeException", "java/lang/Exception"]).filter goodWord)
def wsX3_mixed : List Cond := .code yX3_mixed cX3_mixed 3 (some .int) :: ([.methodLink RX3 266 Lib.Math.min.name, .static Lib.Math.min.name, .initialized "java/lang/Math", .code Lib.Math.min.name Lib.Math.min.code 2 (some .int), .methodLink RX3 271 Lib.Math.max.name, .static Lib.Math.max.name, .code Lib.Math.max.name Lib.Math.max.code 2 (some .int)])
def wsX3_mix_r1 : List Cond := [Cond.methodLink RX3 135 yX3_functionAt, Cond.instanceMethod yX3_functionAt, Cond.selects RX3 yX3_functionAt yX3_functionAt, Cond.initialized RX3, Cond.code yX3_functionAt cX3_functionAt 3 (some (.object "PuddingstoneLine$StepFunction")), Cond.classLink RX3 115 "java/lang/IndexOutOfBoundsException", Cond.initialized "java/lang/IndexOutOfBoundsException", Cond.fieldLink RX3 17 "PuddingstoneLine" "functions" "[LPuddingstoneLine$StepFunction;", Cond.methodLink RX3 61 yX3_checkChoice, Cond.static yX3_checkChoice, Cond.code yX3_checkChoice cX3_checkChoice 2 none, Cond.classLink RX3 93 "java/lang/IllegalArgumentException", Cond.initialized "java/lang/IllegalArgumentException", Cond.methodLink RX3 141 yX2_at, Cond.instanceMethod yX2_at, Cond.selects RX2 yX2_at yX2_at, Cond.initialized RX2, Cond.code yX2_at cX2_at 2 (some .int), Cond.fieldLink RX2 9 "PuddingstoneLine$StepFunction" "values" "[I", Cond.methodLink RX3 152 yX3_mixed, Cond.static yX3_mixed, Cond.code yX3_mixed cX3_mixed 3 (some .int), Cond.methodLink RX3 266 Lib.Math.min.name, Cond.static Lib.Math.min.name]
def wsX3_mix_r2 : List Cond := [Cond.initialized "java/lang/Math", Cond.code Lib.Math.min.name Lib.Math.min.code 2 (some .int), Cond.methodLink RX3 271 Lib.Math.max.name, Cond.static Lib.Math.max.name, Cond.code Lib.Math.max.name Lib.Math.max.code 2 (some .int), Cond.methodLink RX3 145 yX2_write, Cond.instanceMethod yX2_write, Cond.selects RX2 yX2_write yX2_write, Cond.code yX2_write cX2_write 3 none, Cond.methodLink RX2 15 Lib.Math.min.name, Cond.methodLink RX2 21 Lib.Math.max.name, Cond.methodLink RX3 147 yX2_steps, Cond.instanceMethod yX2_steps, Cond.selects RX2 yX2_steps yX2_steps, Cond.code yX2_steps cX2_steps 3 (some .int), Cond.methodLink RX2 24 yX2_at]
def wsX3_mix : List Cond := .code yX3_mix cX3_mix 9 (some .int) :: ((wsX3_mix_r1 ++ wsX3_mix_r2) ++ wsX30 ++ wsX20 ++ (vx_atS RX3 119 "java/lang/IndexOutOfBoundsException" ["java/lang/RuntimeException", "java/lang/Exception"]).filter goodWord ++ (vx_atS RX3 97 "java/lang/IllegalArgumentException" ["java/lang/RuntimeException", "java/lang/Exception"]).filter goodWord)
def wsX3_turnFunction_r1 : List Cond := [Cond.fieldLink RX3 27 "PuddingstoneLine" "spareFunction" "LPuddingstoneLine$StepFunction;", Cond.methodLink RX3 274 yX2_copyFrom, Cond.instanceMethod yX2_copyFrom, Cond.selects RX2 yX2_copyFrom yX2_copyFrom, Cond.initialized RX2, Cond.code yX2_copyFrom cX2_copyFrom 3 none, Cond.methodLink RX2 24 yX2_at, Cond.instanceMethod yX2_at, Cond.selects RX2 yX2_at yX2_at, Cond.code yX2_at cX2_at 2 (some .int), Cond.fieldLink RX2 9 "PuddingstoneLine$StepFunction" "values" "[I", Cond.methodLink RX2 28 yX2_write, Cond.instanceMethod yX2_write, Cond.selects RX2 yX2_write yX2_write, Cond.code yX2_write cX2_write 3 none, Cond.methodLink RX2 15 Lib.Math.min.name, Cond.static Lib.Math.min.name, Cond.initialized "java/lang/Math", Cond.code Lib.Math.min.name Lib.Math.min.code 2 (some .int), Cond.methodLink RX2 21 Lib.Math.max.name, Cond.static Lib.Math.max.name, Cond.code Lib.Math.max.name Lib.Math.max.code 2 (some .int), Cond.methodLink RX3 277 yX2_negate, Cond.instanceMethod yX2_negate]
def wsX3_turnFunction_r2 : List Cond := [Cond.selects RX2 yX2_negate yX2_negate, Cond.code yX2_negate cX2_negate 2 none, Cond.methodLink RX3 280 yX2_climbFromLeft, Cond.instanceMethod yX2_climbFromLeft, Cond.selects RX2 yX2_climbFromLeft yX2_climbFromLeft, Cond.code yX2_climbFromLeft cX2_climbFromLeft 2 none, Cond.methodLink RX3 283 yX2_climbFromRight, Cond.instanceMethod yX2_climbFromRight, Cond.selects RX2 yX2_climbFromRight yX2_climbFromRight, Cond.code yX2_climbFromRight cX2_climbFromRight 2 none, Cond.methodLink RX3 286 yX2_addUp, Cond.instanceMethod yX2_addUp, Cond.selects RX2 yX2_addUp yX2_addUp, Cond.code yX2_addUp cX2_addUp 3 none, Cond.static yX3_isPoint, Cond.initialized RX3, Cond.code yX3_isPoint cX3_isPoint 1 (some .boolean), Cond.methodLink RX3 289 yX2_mirrorOf, Cond.instanceMethod yX2_mirrorOf, Cond.selects RX2 yX2_mirrorOf yX2_mirrorOf, Cond.code yX2_mirrorOf cX2_mirrorOf 3 none, Cond.methodLink RX3 292 yX2_greatestNear, Cond.instanceMethod yX2_greatestNear, Cond.selects RX2 yX2_greatestNear yX2_greatestNear]
def wsX3_turnFunction_r3 : List Cond := [Cond.code yX2_greatestNear cX2_greatestNear 4 none, Cond.methodLink RX2 36 yX2_greatest, Cond.instanceMethod yX2_greatest, Cond.selects RX2 yX2_greatest yX2_greatest, Cond.code yX2_greatest cX2_greatest 5 (some .int), Cond.methodLink RX3 296 yX2_leastNear, Cond.instanceMethod yX2_leastNear, Cond.selects RX2 yX2_leastNear yX2_leastNear, Cond.code yX2_leastNear cX2_leastNear 4 none, Cond.methodLink RX2 39 yX2_least, Cond.instanceMethod yX2_least, Cond.selects RX2 yX2_least yX2_least, Cond.code yX2_least cX2_least 5 (some .int)]
def wsX3_turnFunction : List Cond := .code yX3_turnFunction cX3_turnFunction 4 none :: ((wsX3_turnFunction_r1 ++ (wsX3_turnFunction_r2 ++ wsX3_turnFunction_r3)) ++ wsX30 ++ wsX20)
def wsX3_turn_r1 : List Cond := [Cond.classLink RX3 93 "java/lang/IllegalArgumentException", Cond.initialized "java/lang/IllegalArgumentException", Cond.methodLink RX3 135 yX3_functionAt, Cond.instanceMethod yX3_functionAt, Cond.selects RX3 yX3_functionAt yX3_functionAt, Cond.initialized RX3, Cond.code yX3_functionAt cX3_functionAt 3 (some (.object "PuddingstoneLine$StepFunction")), Cond.classLink RX3 115 "java/lang/IndexOutOfBoundsException", Cond.initialized "java/lang/IndexOutOfBoundsException", Cond.fieldLink RX3 17 "PuddingstoneLine" "functions" "[LPuddingstoneLine$StepFunction;", Cond.methodLink RX3 61 yX3_checkChoice, Cond.static yX3_checkChoice, Cond.code yX3_checkChoice cX3_checkChoice 2 none, Cond.methodLink RX3 157 yX3_turnFunction, Cond.instanceMethod yX3_turnFunction, Cond.selects RX3 yX3_turnFunction yX3_turnFunction, Cond.code yX3_turnFunction cX3_turnFunction 4 none, Cond.fieldLink RX3 27 "PuddingstoneLine" "spareFunction" "LPuddingstoneLine$StepFunction;", Cond.methodLink RX3 274 yX2_copyFrom, Cond.instanceMethod yX2_copyFrom, Cond.selects RX2 yX2_copyFrom yX2_copyFrom, Cond.initialized RX2, Cond.code yX2_copyFrom cX2_copyFrom 3 none, Cond.methodLink RX2 24 yX2_at]
def wsX3_turn_r2 : List Cond := [Cond.instanceMethod yX2_at, Cond.selects RX2 yX2_at yX2_at, Cond.code yX2_at cX2_at 2 (some .int), Cond.fieldLink RX2 9 "PuddingstoneLine$StepFunction" "values" "[I", Cond.methodLink RX2 28 yX2_write, Cond.instanceMethod yX2_write, Cond.selects RX2 yX2_write yX2_write, Cond.code yX2_write cX2_write 3 none, Cond.methodLink RX2 15 Lib.Math.min.name, Cond.static Lib.Math.min.name, Cond.initialized "java/lang/Math", Cond.code Lib.Math.min.name Lib.Math.min.code 2 (some .int), Cond.methodLink RX2 21 Lib.Math.max.name, Cond.static Lib.Math.max.name, Cond.code Lib.Math.max.name Lib.Math.max.code 2 (some .int), Cond.methodLink RX3 277 yX2_negate, Cond.instanceMethod yX2_negate, Cond.selects RX2 yX2_negate yX2_negate, Cond.code yX2_negate cX2_negate 2 none, Cond.methodLink RX3 280 yX2_climbFromLeft, Cond.instanceMethod yX2_climbFromLeft, Cond.selects RX2 yX2_climbFromLeft yX2_climbFromLeft, Cond.code yX2_climbFromLeft cX2_climbFromLeft 2 none, Cond.methodLink RX3 283 yX2_climbFromRight]
def wsX3_turn_r3 : List Cond := [Cond.instanceMethod yX2_climbFromRight, Cond.selects RX2 yX2_climbFromRight yX2_climbFromRight, Cond.code yX2_climbFromRight cX2_climbFromRight 2 none, Cond.methodLink RX3 286 yX2_addUp, Cond.instanceMethod yX2_addUp, Cond.selects RX2 yX2_addUp yX2_addUp, Cond.code yX2_addUp cX2_addUp 3 none, Cond.static yX3_isPoint, Cond.code yX3_isPoint cX3_isPoint 1 (some .boolean), Cond.methodLink RX3 289 yX2_mirrorOf, Cond.instanceMethod yX2_mirrorOf, Cond.selects RX2 yX2_mirrorOf yX2_mirrorOf, Cond.code yX2_mirrorOf cX2_mirrorOf 3 none, Cond.methodLink RX3 292 yX2_greatestNear, Cond.instanceMethod yX2_greatestNear, Cond.selects RX2 yX2_greatestNear yX2_greatestNear, Cond.code yX2_greatestNear cX2_greatestNear 4 none, Cond.methodLink RX2 36 yX2_greatest, Cond.instanceMethod yX2_greatest, Cond.selects RX2 yX2_greatest yX2_greatest, Cond.code yX2_greatest cX2_greatest 5 (some .int), Cond.methodLink RX3 296 yX2_leastNear, Cond.instanceMethod yX2_leastNear, Cond.selects RX2 yX2_leastNear yX2_leastNear]
def wsX3_turn_r4 : List Cond := [Cond.code yX2_leastNear cX2_leastNear 4 none, Cond.methodLink RX2 39 yX2_least, Cond.instanceMethod yX2_least, Cond.selects RX2 yX2_least yX2_least, Cond.code yX2_least cX2_least 5 (some .int), Cond.methodLink RX3 147 yX2_steps, Cond.instanceMethod yX2_steps, Cond.selects RX2 yX2_steps yX2_steps, Cond.code yX2_steps cX2_steps 3 (some .int)]
def wsX3_turn : List Cond := .code yX3_turn cX3_turn 5 (some .int) :: ((wsX3_turn_r1 ++ (wsX3_turn_r2 ++ (wsX3_turn_r3 ++ wsX3_turn_r4))) ++ wsX30 ++ wsX20 ++ (vx_atS RX3 97 "java/lang/IllegalArgumentException" ["java/lang/RuntimeException", "java/lang/Exception"]).filter goodWord ++ (vx_atS RX3 119 "java/lang/IndexOutOfBoundsException" ["java/lang/RuntimeException", "java/lang/Exception"]).filter goodWord)
def wsX3_checkFamily : List Cond := .code yX3_checkFamily cX3_checkFamily 1 none :: ([.classLink RX3 93 "java/lang/IllegalArgumentException", .initialized "java/lang/IllegalArgumentException"] ++ (vx_atS RX3 97 "java/lang/IllegalArgumentException" ["java/lang/RuntimeException", "java/lang/Exception"]).filter goodWord)
def wsX3_memberOrNull : List Cond := .code yX3_memberOrNull cX3_memberOrNull 3 (some (.object "PuddingstoneLine$GrainSet")) :: ([.methodLink RX3 211 yX3_setOrNull, .instanceMethod yX3_setOrNull, .selects RX3 yX3_setOrNull yX3_setOrNull, .initialized RX3, .code yX3_setOrNull cX3_setOrNull 2 (some (.object "PuddingstoneLine$GrainSet")), .fieldLink RX3 11 "PuddingstoneLine" "sets" "[LPuddingstoneLine$GrainSet;"] ++ wsX30)
def wsX3_thickness : List Cond := .code yX3_thickness cX3_thickness 6 (some .int) :: ([.methodLink RX3 308 yX3_memberOrNull, .instanceMethod yX3_memberOrNull, .selects RX3 yX3_memberOrNull yX3_memberOrNull, .initialized RX3, .code yX3_memberOrNull cX3_memberOrNull 3 (some (.object "PuddingstoneLine$GrainSet")), .methodLink RX3 211 yX3_setOrNull, .instanceMethod yX3_setOrNull, .selects RX3 yX3_setOrNull yX3_setOrNull, .code yX3_setOrNull cX3_setOrNull 2 (some (.object "PuddingstoneLine$GrainSet")), .fieldLink RX3 11 "PuddingstoneLine" "sets" "[LPuddingstoneLine$GrainSet;", .methodLink RX3 65 yX0_holds, .instanceMethod yX0_holds, .selects RX0 yX0_holds yX0_holds, .initialized RX0, .code yX0_holds cX0_holds 2 (some .boolean), .fieldLink RX0 9 "PuddingstoneLine$GrainSet" "grains" "[Z"] ++ wsX30 ++ wsX00)
def wsX3_thick_r1 : List Cond := [Cond.methodLink RX3 135 yX3_functionAt, Cond.instanceMethod yX3_functionAt, Cond.selects RX3 yX3_functionAt yX3_functionAt, Cond.initialized RX3, Cond.code yX3_functionAt cX3_functionAt 3 (some (.object "PuddingstoneLine$StepFunction")), Cond.classLink RX3 115 "java/lang/IndexOutOfBoundsException", Cond.initialized "java/lang/IndexOutOfBoundsException", Cond.fieldLink RX3 17 "PuddingstoneLine" "functions" "[LPuddingstoneLine$StepFunction;", Cond.methodLink RX3 161 yX3_checkFamily, Cond.static yX3_checkFamily, Cond.code yX3_checkFamily cX3_checkFamily 1 none, Cond.classLink RX3 93 "java/lang/IllegalArgumentException", Cond.initialized "java/lang/IllegalArgumentException", Cond.methodLink RX3 164 yX3_thickness, Cond.instanceMethod yX3_thickness, Cond.selects RX3 yX3_thickness yX3_thickness, Cond.code yX3_thickness cX3_thickness 6 (some .int), Cond.methodLink RX3 308 yX3_memberOrNull, Cond.instanceMethod yX3_memberOrNull, Cond.selects RX3 yX3_memberOrNull yX3_memberOrNull, Cond.code yX3_memberOrNull cX3_memberOrNull 3 (some (.object "PuddingstoneLine$GrainSet")), Cond.methodLink RX3 211 yX3_setOrNull, Cond.instanceMethod yX3_setOrNull, Cond.selects RX3 yX3_setOrNull yX3_setOrNull]
def wsX3_thick_r2 : List Cond := [Cond.code yX3_setOrNull cX3_setOrNull 2 (some (.object "PuddingstoneLine$GrainSet")), Cond.fieldLink RX3 11 "PuddingstoneLine" "sets" "[LPuddingstoneLine$GrainSet;", Cond.methodLink RX3 65 yX0_holds, Cond.instanceMethod yX0_holds, Cond.selects RX0 yX0_holds yX0_holds, Cond.initialized RX0, Cond.code yX0_holds cX0_holds 2 (some .boolean), Cond.fieldLink RX0 9 "PuddingstoneLine$GrainSet" "grains" "[Z", Cond.methodLink RX3 145 yX2_write, Cond.instanceMethod yX2_write, Cond.selects RX2 yX2_write yX2_write, Cond.initialized RX2, Cond.code yX2_write cX2_write 3 none, Cond.fieldLink RX2 9 "PuddingstoneLine$StepFunction" "values" "[I", Cond.methodLink RX2 15 Lib.Math.min.name, Cond.static Lib.Math.min.name, Cond.initialized "java/lang/Math", Cond.code Lib.Math.min.name Lib.Math.min.code 2 (some .int), Cond.methodLink RX2 21 Lib.Math.max.name, Cond.static Lib.Math.max.name, Cond.code Lib.Math.max.name Lib.Math.max.code 2 (some .int), Cond.methodLink RX3 147 yX2_steps, Cond.instanceMethod yX2_steps, Cond.selects RX2 yX2_steps yX2_steps]
def wsX3_thick_r3 : List Cond := [Cond.code yX2_steps cX2_steps 3 (some .int), Cond.methodLink RX2 24 yX2_at, Cond.instanceMethod yX2_at, Cond.selects RX2 yX2_at yX2_at, Cond.code yX2_at cX2_at 2 (some .int)]
def wsX3_thick : List Cond := .code yX3_thick cX3_thick 5 (some .int) :: ((wsX3_thick_r1 ++ (wsX3_thick_r2 ++ wsX3_thick_r3)) ++ wsX30 ++ wsX00 ++ wsX20 ++ (vx_atS RX3 119 "java/lang/IndexOutOfBoundsException" ["java/lang/RuntimeException", "java/lang/Exception"]).filter goodWord ++ (vx_atS RX3 97 "java/lang/IllegalArgumentException" ["java/lang/RuntimeException", "java/lang/Exception"]).filter goodWord)
def wsX3_where_r1 : List Cond := [Cond.methodLink RX3 42 yX3_setAt, Cond.instanceMethod yX3_setAt, Cond.selects RX3 yX3_setAt yX3_setAt, Cond.initialized RX3, Cond.code yX3_setAt cX3_setAt 3 (some (.object "PuddingstoneLine$GrainSet")), Cond.classLink RX3 115 "java/lang/IndexOutOfBoundsException", Cond.initialized "java/lang/IndexOutOfBoundsException", Cond.methodLink RX3 211 yX3_setOrNull, Cond.instanceMethod yX3_setOrNull, Cond.selects RX3 yX3_setOrNull yX3_setOrNull, Cond.code yX3_setOrNull cX3_setOrNull 2 (some (.object "PuddingstoneLine$GrainSet")), Cond.fieldLink RX3 11 "PuddingstoneLine" "sets" "[LPuddingstoneLine$GrainSet;", Cond.methodLink RX3 135 yX3_functionAt, Cond.instanceMethod yX3_functionAt, Cond.selects RX3 yX3_functionAt yX3_functionAt, Cond.code yX3_functionAt cX3_functionAt 3 (some (.object "PuddingstoneLine$StepFunction")), Cond.fieldLink RX3 17 "PuddingstoneLine" "functions" "[LPuddingstoneLine$StepFunction;", Cond.methodLink RX3 141 yX2_at, Cond.instanceMethod yX2_at, Cond.selects RX2 yX2_at yX2_at, Cond.initialized RX2, Cond.code yX2_at cX2_at 2 (some .int), Cond.fieldLink RX2 9 "PuddingstoneLine$StepFunction" "values" "[I", Cond.methodLink RX3 73 yX0_write]
def wsX3_where_r2 : List Cond := [Cond.instanceMethod yX0_write, Cond.selects RX0 yX0_write yX0_write, Cond.initialized RX0, Cond.code yX0_write cX0_write 3 none, Cond.fieldLink RX0 9 "PuddingstoneLine$GrainSet" "grains" "[Z", Cond.methodLink RX3 77 yX0_count, Cond.instanceMethod yX0_count, Cond.selects RX0 yX0_count yX0_count, Cond.code yX0_count cX0_count 3 (some .int), Cond.methodLink RX0 21 yX0_holds, Cond.instanceMethod yX0_holds, Cond.selects RX0 yX0_holds yX0_holds, Cond.code yX0_holds cX0_holds 2 (some .boolean)]
def wsX3_where : List Cond := .code yX3_where cX3_where 9 (some .int) :: ((wsX3_where_r1 ++ wsX3_where_r2) ++ wsX30 ++ wsX20 ++ wsX00 ++ (vx_atS RX3 119 "java/lang/IndexOutOfBoundsException" ["java/lang/RuntimeException", "java/lang/Exception"]).filter goodWord)
def wsX3_areaBetween : List Cond := .code yX3_areaBetween cX3_areaBetween 5 (some .int) :: ([.methodLink RX3 141 yX2_at, .instanceMethod yX2_at, .selects RX2 yX2_at yX2_at, .initialized RX2, .code yX2_at cX2_at 2 (some .int), .fieldLink RX2 9 "PuddingstoneLine$StepFunction" "values" "[I"] ++ wsX20)
def wsX3_factOfFunction_r1 : List Cond := [Cond.methodLink RX3 147 yX2_steps, Cond.instanceMethod yX2_steps, Cond.selects RX2 yX2_steps yX2_steps, Cond.initialized RX2, Cond.code yX2_steps cX2_steps 3 (some .int), Cond.methodLink RX2 24 yX2_at, Cond.instanceMethod yX2_at, Cond.selects RX2 yX2_at yX2_at, Cond.code yX2_at cX2_at 2 (some .int), Cond.fieldLink RX2 9 "PuddingstoneLine$StepFunction" "values" "[I", Cond.methodLink RX3 299 yX2_least, Cond.instanceMethod yX2_least, Cond.selects RX2 yX2_least yX2_least, Cond.code yX2_least cX2_least 5 (some .int), Cond.methodLink RX2 21 Lib.Math.max.name, Cond.static Lib.Math.max.name, Cond.initialized "java/lang/Math", Cond.code Lib.Math.max.name Lib.Math.max.code 2 (some .int), Cond.methodLink RX2 15 Lib.Math.min.name, Cond.static Lib.Math.min.name, Cond.code Lib.Math.min.name Lib.Math.min.code 2 (some .int), Cond.methodLink RX3 302 yX2_greatest, Cond.instanceMethod yX2_greatest, Cond.selects RX2 yX2_greatest yX2_greatest]
def wsX3_factOfFunction_r2 : List Cond := [Cond.code yX2_greatest cX2_greatest 5 (some .int), Cond.methodLink RX3 305 yX2_firstGreatest, Cond.instanceMethod yX2_firstGreatest, Cond.selects RX2 yX2_firstGreatest yX2_firstGreatest, Cond.code yX2_firstGreatest cX2_firstGreatest 3 (some .int), Cond.methodLink RX3 192 yX3_areaBetween, Cond.static yX3_areaBetween, Cond.initialized RX3, Cond.code yX3_areaBetween cX3_areaBetween 5 (some .int), Cond.methodLink RX3 141 yX2_at]
def wsX3_factOfFunction : List Cond := .code yX3_factOfFunction cX3_factOfFunction 2 (some .int) :: ((wsX3_factOfFunction_r1 ++ wsX3_factOfFunction_r2) ++ wsX20)
def wsX3_ofFunction_r1 : List Cond := [Cond.methodLink RX3 135 yX3_functionAt, Cond.instanceMethod yX3_functionAt, Cond.selects RX3 yX3_functionAt yX3_functionAt, Cond.initialized RX3, Cond.code yX3_functionAt cX3_functionAt 3 (some (.object "PuddingstoneLine$StepFunction")), Cond.classLink RX3 115 "java/lang/IndexOutOfBoundsException", Cond.initialized "java/lang/IndexOutOfBoundsException", Cond.fieldLink RX3 17 "PuddingstoneLine" "functions" "[LPuddingstoneLine$StepFunction;", Cond.methodLink RX3 61 yX3_checkChoice, Cond.static yX3_checkChoice, Cond.code yX3_checkChoice cX3_checkChoice 2 none, Cond.classLink RX3 93 "java/lang/IllegalArgumentException", Cond.initialized "java/lang/IllegalArgumentException", Cond.methodLink RX3 167 yX3_factOfFunction, Cond.static yX3_factOfFunction, Cond.code yX3_factOfFunction cX3_factOfFunction 2 (some .int), Cond.methodLink RX3 147 yX2_steps, Cond.instanceMethod yX2_steps, Cond.selects RX2 yX2_steps yX2_steps, Cond.initialized RX2, Cond.code yX2_steps cX2_steps 3 (some .int), Cond.methodLink RX2 24 yX2_at, Cond.instanceMethod yX2_at, Cond.selects RX2 yX2_at yX2_at]
def wsX3_ofFunction_r2 : List Cond := [Cond.code yX2_at cX2_at 2 (some .int), Cond.fieldLink RX2 9 "PuddingstoneLine$StepFunction" "values" "[I", Cond.methodLink RX3 299 yX2_least, Cond.instanceMethod yX2_least, Cond.selects RX2 yX2_least yX2_least, Cond.code yX2_least cX2_least 5 (some .int), Cond.methodLink RX2 21 Lib.Math.max.name, Cond.static Lib.Math.max.name, Cond.initialized "java/lang/Math", Cond.code Lib.Math.max.name Lib.Math.max.code 2 (some .int), Cond.methodLink RX2 15 Lib.Math.min.name, Cond.static Lib.Math.min.name, Cond.code Lib.Math.min.name Lib.Math.min.code 2 (some .int), Cond.methodLink RX3 302 yX2_greatest, Cond.instanceMethod yX2_greatest, Cond.selects RX2 yX2_greatest yX2_greatest, Cond.code yX2_greatest cX2_greatest 5 (some .int), Cond.methodLink RX3 305 yX2_firstGreatest, Cond.instanceMethod yX2_firstGreatest, Cond.selects RX2 yX2_firstGreatest yX2_firstGreatest, Cond.code yX2_firstGreatest cX2_firstGreatest 3 (some .int), Cond.methodLink RX3 192 yX3_areaBetween, Cond.static yX3_areaBetween, Cond.code yX3_areaBetween cX3_areaBetween 5 (some .int)]
def wsX3_ofFunction_r3 : List Cond := [Cond.methodLink RX3 141 yX2_at]
def wsX3_ofFunction : List Cond := .code yX3_ofFunction cX3_ofFunction 4 (some .int) :: ((wsX3_ofFunction_r1 ++ (wsX3_ofFunction_r2 ++ wsX3_ofFunction_r3)) ++ wsX30 ++ wsX20 ++ (vx_atS RX3 119 "java/lang/IndexOutOfBoundsException" ["java/lang/RuntimeException", "java/lang/Exception"]).filter goodWord ++ (vx_atS RX3 97 "java/lang/IllegalArgumentException" ["java/lang/RuntimeException", "java/lang/Exception"]).filter goodWord)
def wsX3_value : List Cond := .code yX3_value cX3_value 4 (some .int) :: ([.methodLink RX3 135 yX3_functionAt, .instanceMethod yX3_functionAt, .selects RX3 yX3_functionAt yX3_functionAt, .initialized RX3, .code yX3_functionAt cX3_functionAt 3 (some (.object "PuddingstoneLine$StepFunction")), .classLink RX3 115 "java/lang/IndexOutOfBoundsException", .initialized "java/lang/IndexOutOfBoundsException", .fieldLink RX3 17 "PuddingstoneLine" "functions" "[LPuddingstoneLine$StepFunction;", .methodLink RX3 124 yX3_checkGrain, .static yX3_checkGrain, .code yX3_checkGrain cX3_checkGrain 1 none, .methodLink RX3 141 yX2_at, .instanceMethod yX2_at, .selects RX2 yX2_at yX2_at, .initialized RX2, .code yX2_at cX2_at 2 (some .int), .fieldLink RX2 9 "PuddingstoneLine$StepFunction" "values" "[I"] ++ wsX30 ++ wsX20 ++ (vx_atS RX3 119 "java/lang/IndexOutOfBoundsException" ["java/lang/RuntimeException", "java/lang/Exception"]).filter goodWord)
def wsX3_areaOver : List Cond := .code yX3_areaOver cX3_areaOver 4 (some .int) :: ([.methodLink RX3 65 yX0_holds, .instanceMethod yX0_holds, .selects RX0 yX0_holds yX0_holds, .initialized RX0, .code yX0_holds cX0_holds 2 (some .boolean), .fieldLink RX0 9 "PuddingstoneLine$GrainSet" "grains" "[Z", .methodLink RX3 141 yX2_at, .instanceMethod yX2_at, .selects RX2 yX2_at yX2_at, .initialized RX2, .code yX2_at cX2_at 2 (some .int), .fieldLink RX2 9 "PuddingstoneLine$StepFunction" "values" "[I"] ++ wsX00 ++ wsX20)
def wsX3_area_r1 : List Cond := [Cond.methodLink RX3 135 yX3_functionAt, Cond.instanceMethod yX3_functionAt, Cond.selects RX3 yX3_functionAt yX3_functionAt, Cond.initialized RX3, Cond.code yX3_functionAt cX3_functionAt 3 (some (.object "PuddingstoneLine$StepFunction")), Cond.classLink RX3 115 "java/lang/IndexOutOfBoundsException", Cond.initialized "java/lang/IndexOutOfBoundsException", Cond.fieldLink RX3 17 "PuddingstoneLine" "functions" "[LPuddingstoneLine$StepFunction;", Cond.methodLink RX3 42 yX3_setAt, Cond.instanceMethod yX3_setAt, Cond.selects RX3 yX3_setAt yX3_setAt, Cond.code yX3_setAt cX3_setAt 3 (some (.object "PuddingstoneLine$GrainSet")), Cond.methodLink RX3 211 yX3_setOrNull, Cond.instanceMethod yX3_setOrNull, Cond.selects RX3 yX3_setOrNull yX3_setOrNull, Cond.code yX3_setOrNull cX3_setOrNull 2 (some (.object "PuddingstoneLine$GrainSet")), Cond.fieldLink RX3 11 "PuddingstoneLine" "sets" "[LPuddingstoneLine$GrainSet;", Cond.methodLink RX3 171 yX3_areaOver, Cond.static yX3_areaOver, Cond.code yX3_areaOver cX3_areaOver 4 (some .int), Cond.methodLink RX3 65 yX0_holds, Cond.instanceMethod yX0_holds, Cond.selects RX0 yX0_holds yX0_holds, Cond.initialized RX0]
def wsX3_area_r2 : List Cond := [Cond.code yX0_holds cX0_holds 2 (some .boolean), Cond.fieldLink RX0 9 "PuddingstoneLine$GrainSet" "grains" "[Z", Cond.methodLink RX3 141 yX2_at, Cond.instanceMethod yX2_at, Cond.selects RX2 yX2_at yX2_at, Cond.initialized RX2, Cond.code yX2_at cX2_at 2 (some .int), Cond.fieldLink RX2 9 "PuddingstoneLine$StepFunction" "values" "[I"]
def wsX3_area : List Cond := .code yX3_area cX3_area 4 (some .int) :: ((wsX3_area_r1 ++ wsX3_area_r2) ++ wsX30 ++ wsX00 ++ wsX20 ++ (vx_atS RX3 119 "java/lang/IndexOutOfBoundsException" ["java/lang/RuntimeException", "java/lang/Exception"]).filter goodWord)
def wsX3_mean_r1 : List Cond := [Cond.methodLink RX3 135 yX3_functionAt, Cond.instanceMethod yX3_functionAt, Cond.selects RX3 yX3_functionAt yX3_functionAt, Cond.initialized RX3, Cond.code yX3_functionAt cX3_functionAt 3 (some (.object "PuddingstoneLine$StepFunction")), Cond.classLink RX3 115 "java/lang/IndexOutOfBoundsException", Cond.initialized "java/lang/IndexOutOfBoundsException", Cond.fieldLink RX3 17 "PuddingstoneLine" "functions" "[LPuddingstoneLine$StepFunction;", Cond.methodLink RX3 42 yX3_setAt, Cond.instanceMethod yX3_setAt, Cond.selects RX3 yX3_setAt yX3_setAt, Cond.code yX3_setAt cX3_setAt 3 (some (.object "PuddingstoneLine$GrainSet")), Cond.methodLink RX3 211 yX3_setOrNull, Cond.instanceMethod yX3_setOrNull, Cond.selects RX3 yX3_setOrNull yX3_setOrNull, Cond.code yX3_setOrNull cX3_setOrNull 2 (some (.object "PuddingstoneLine$GrainSet")), Cond.fieldLink RX3 11 "PuddingstoneLine" "sets" "[LPuddingstoneLine$GrainSet;", Cond.methodLink RX3 175 yX0_length, Cond.instanceMethod yX0_length, Cond.selects RX0 yX0_length yX0_length, Cond.initialized RX0, Cond.code yX0_length cX0_length 3 (some .int), Cond.methodLink RX0 21 yX0_holds, Cond.instanceMethod yX0_holds]
def wsX3_mean_r2 : List Cond := [Cond.selects RX0 yX0_holds yX0_holds, Cond.code yX0_holds cX0_holds 2 (some .boolean), Cond.fieldLink RX0 9 "PuddingstoneLine$GrainSet" "grains" "[Z", Cond.methodLink RX3 171 yX3_areaOver, Cond.static yX3_areaOver, Cond.code yX3_areaOver cX3_areaOver 4 (some .int), Cond.methodLink RX3 65 yX0_holds, Cond.methodLink RX3 141 yX2_at, Cond.instanceMethod yX2_at, Cond.selects RX2 yX2_at yX2_at, Cond.initialized RX2, Cond.code yX2_at cX2_at 2 (some .int), Cond.fieldLink RX2 9 "PuddingstoneLine$StepFunction" "values" "[I"]
def wsX3_mean : List Cond := .code yX3_mean cX3_mean 6 (some .double) :: ((wsX3_mean_r1 ++ wsX3_mean_r2) ++ wsX30 ++ wsX00 ++ wsX20 ++ (vx_atS RX3 119 "java/lang/IndexOutOfBoundsException" ["java/lang/RuntimeException", "java/lang/Exception"]).filter goodWord)
def wsX3_countThicker : List Cond := .code yX3_countThicker cX3_countThicker 5 (some .int) :: ([.methodLink RX3 164 yX3_thickness, .instanceMethod yX3_thickness, .selects RX3 yX3_thickness yX3_thickness, .initialized RX3, .code yX3_thickness cX3_thickness 6 (some .int), .methodLink RX3 308 yX3_memberOrNull, .instanceMethod yX3_memberOrNull, .selects RX3 yX3_memberOrNull yX3_memberOrNull, .code yX3_memberOrNull cX3_memberOrNull 3 (some (.object "PuddingstoneLine$GrainSet")), .methodLink RX3 211 yX3_setOrNull, .instanceMethod yX3_setOrNull, .selects RX3 yX3_setOrNull yX3_setOrNull, .code yX3_setOrNull cX3_setOrNull 2 (some (.object "PuddingstoneLine$GrainSet")), .fieldLink RX3 11 "PuddingstoneLine" "sets" "[LPuddingstoneLine$GrainSet;", .methodLink RX3 65 yX0_holds, .instanceMethod yX0_holds, .selects RX0 yX0_holds yX0_holds, .initialized RX0, .code yX0_holds cX0_holds 2 (some .boolean), .fieldLink RX0 9 "PuddingstoneLine$GrainSet" "grains" "[Z"] ++ wsX30 ++ wsX00)
def wsX3_thicker_r1 : List Cond := [Cond.methodLink RX3 161 yX3_checkFamily, Cond.static yX3_checkFamily, Cond.initialized RX3, Cond.code yX3_checkFamily cX3_checkFamily 1 none, Cond.classLink RX3 93 "java/lang/IllegalArgumentException", Cond.initialized "java/lang/IllegalArgumentException", Cond.methodLink RX3 178 yX3_countThicker, Cond.instanceMethod yX3_countThicker, Cond.selects RX3 yX3_countThicker yX3_countThicker, Cond.code yX3_countThicker cX3_countThicker 5 (some .int), Cond.methodLink RX3 164 yX3_thickness, Cond.instanceMethod yX3_thickness, Cond.selects RX3 yX3_thickness yX3_thickness, Cond.code yX3_thickness cX3_thickness 6 (some .int), Cond.methodLink RX3 308 yX3_memberOrNull, Cond.instanceMethod yX3_memberOrNull, Cond.selects RX3 yX3_memberOrNull yX3_memberOrNull, Cond.code yX3_memberOrNull cX3_memberOrNull 3 (some (.object "PuddingstoneLine$GrainSet")), Cond.methodLink RX3 211 yX3_setOrNull, Cond.instanceMethod yX3_setOrNull, Cond.selects RX3 yX3_setOrNull yX3_setOrNull, Cond.code yX3_setOrNull cX3_setOrNull 2 (some (.object "PuddingstoneLine$GrainSet")), Cond.fieldLink RX3 11 "PuddingstoneLine" "sets" "[LPuddingstoneLine$GrainSet;", Cond.methodLink RX3 65 yX0_holds]
def wsX3_thicker_r2 : List Cond := [Cond.instanceMethod yX0_holds, Cond.selects RX0 yX0_holds yX0_holds, Cond.initialized RX0, Cond.code yX0_holds cX0_holds 2 (some .boolean), Cond.fieldLink RX0 9 "PuddingstoneLine$GrainSet" "grains" "[Z"]
def wsX3_thicker : List Cond := .code yX3_thicker cX3_thicker 3 (some .int) :: ((wsX3_thicker_r1 ++ wsX3_thicker_r2) ++ wsX30 ++ wsX00 ++ (vx_atS RX3 97 "java/lang/IllegalArgumentException" ["java/lang/RuntimeException", "java/lang/Exception"]).filter goodWord)
def wsX3_farthestFrom : List Cond := .code yX3_farthestFrom cX3_farthestFrom 7 (some .int) :: ([.methodLink RX3 308 yX3_memberOrNull, .instanceMethod yX3_memberOrNull, .selects RX3 yX3_memberOrNull yX3_memberOrNull, .initialized RX3, .code yX3_memberOrNull cX3_memberOrNull 3 (some (.object "PuddingstoneLine$GrainSet")), .methodLink RX3 211 yX3_setOrNull, .instanceMethod yX3_setOrNull, .selects RX3 yX3_setOrNull yX3_setOrNull, .code yX3_setOrNull cX3_setOrNull 2 (some (.object "PuddingstoneLine$GrainSet")), .fieldLink RX3 11 "PuddingstoneLine" "sets" "[LPuddingstoneLine$GrainSet;", .methodLink RX3 65 yX0_holds, .instanceMethod yX0_holds, .selects RX0 yX0_holds yX0_holds, .initialized RX0, .code yX0_holds cX0_holds 2 (some .boolean), .fieldLink RX0 9 "PuddingstoneLine$GrainSet" "grains" "[Z", .methodLink RX3 315 yX0_lastOfRun, .instanceMethod yX0_lastOfRun, .selects RX0 yX0_lastOfRun yX0_lastOfRun, .code yX0_lastOfRun cX0_lastOfRun 3 (some .int), .methodLink RX0 21 yX0_holds] ++ wsX30 ++ wsX00)
def wsX3_takeCover_r1 : List Cond := [Cond.fieldLink RX3 38 "PuddingstoneLine" "coverSets" "[I", Cond.methodLink RX3 65 yX0_holds, Cond.instanceMethod yX0_holds, Cond.selects RX0 yX0_holds yX0_holds, Cond.initialized RX0, Cond.code yX0_holds cX0_holds 2 (some .boolean), Cond.fieldLink RX0 9 "PuddingstoneLine$GrainSet" "grains" "[Z", Cond.methodLink RX3 312 yX3_farthestFrom, Cond.instanceMethod yX3_farthestFrom, Cond.selects RX3 yX3_farthestFrom yX3_farthestFrom, Cond.initialized RX3, Cond.code yX3_farthestFrom cX3_farthestFrom 7 (some .int), Cond.methodLink RX3 308 yX3_memberOrNull, Cond.instanceMethod yX3_memberOrNull, Cond.selects RX3 yX3_memberOrNull yX3_memberOrNull, Cond.code yX3_memberOrNull cX3_memberOrNull 3 (some (.object "PuddingstoneLine$GrainSet")), Cond.methodLink RX3 211 yX3_setOrNull, Cond.instanceMethod yX3_setOrNull, Cond.selects RX3 yX3_setOrNull yX3_setOrNull, Cond.code yX3_setOrNull cX3_setOrNull 2 (some (.object "PuddingstoneLine$GrainSet")), Cond.fieldLink RX3 11 "PuddingstoneLine" "sets" "[LPuddingstoneLine$GrainSet;", Cond.methodLink RX3 315 yX0_lastOfRun, Cond.instanceMethod yX0_lastOfRun, Cond.selects RX0 yX0_lastOfRun yX0_lastOfRun]
def wsX3_takeCover_r2 : List Cond := [Cond.code yX0_lastOfRun cX0_lastOfRun 3 (some .int), Cond.methodLink RX0 21 yX0_holds]
def wsX3_takeCover : List Cond := .code yX3_takeCover cX3_takeCover 8 (some .int) :: ((wsX3_takeCover_r1 ++ wsX3_takeCover_r2) ++ wsX30 ++ wsX00)
def wsX3_cover_r1 : List Cond := [Cond.methodLink RX3 42 yX3_setAt, Cond.instanceMethod yX3_setAt, Cond.selects RX3 yX3_setAt yX3_setAt, Cond.initialized RX3, Cond.code yX3_setAt cX3_setAt 3 (some (.object "PuddingstoneLine$GrainSet")), Cond.classLink RX3 115 "java/lang/IndexOutOfBoundsException", Cond.initialized "java/lang/IndexOutOfBoundsException", Cond.methodLink RX3 211 yX3_setOrNull, Cond.instanceMethod yX3_setOrNull, Cond.selects RX3 yX3_setOrNull yX3_setOrNull, Cond.code yX3_setOrNull cX3_setOrNull 2 (some (.object "PuddingstoneLine$GrainSet")), Cond.fieldLink RX3 11 "PuddingstoneLine" "sets" "[LPuddingstoneLine$GrainSet;", Cond.methodLink RX3 161 yX3_checkFamily, Cond.static yX3_checkFamily, Cond.code yX3_checkFamily cX3_checkFamily 1 none, Cond.classLink RX3 93 "java/lang/IllegalArgumentException", Cond.initialized "java/lang/IllegalArgumentException", Cond.methodLink RX3 181 yX3_takeCover, Cond.instanceMethod yX3_takeCover, Cond.selects RX3 yX3_takeCover yX3_takeCover, Cond.code yX3_takeCover cX3_takeCover 8 (some .int), Cond.fieldLink RX3 38 "PuddingstoneLine" "coverSets" "[I", Cond.methodLink RX3 65 yX0_holds, Cond.instanceMethod yX0_holds]
def wsX3_cover_r2 : List Cond := [Cond.selects RX0 yX0_holds yX0_holds, Cond.initialized RX0, Cond.code yX0_holds cX0_holds 2 (some .boolean), Cond.fieldLink RX0 9 "PuddingstoneLine$GrainSet" "grains" "[Z", Cond.methodLink RX3 312 yX3_farthestFrom, Cond.instanceMethod yX3_farthestFrom, Cond.selects RX3 yX3_farthestFrom yX3_farthestFrom, Cond.code yX3_farthestFrom cX3_farthestFrom 7 (some .int), Cond.methodLink RX3 308 yX3_memberOrNull, Cond.instanceMethod yX3_memberOrNull, Cond.selects RX3 yX3_memberOrNull yX3_memberOrNull, Cond.code yX3_memberOrNull cX3_memberOrNull 3 (some (.object "PuddingstoneLine$GrainSet")), Cond.methodLink RX3 315 yX0_lastOfRun, Cond.instanceMethod yX0_lastOfRun, Cond.selects RX0 yX0_lastOfRun yX0_lastOfRun, Cond.code yX0_lastOfRun cX0_lastOfRun 3 (some .int), Cond.methodLink RX0 21 yX0_holds]
def wsX3_cover : List Cond := .code yX3_cover cX3_cover 4 (some .int) :: ((wsX3_cover_r1 ++ wsX3_cover_r2) ++ wsX30 ++ wsX00 ++ (vx_atS RX3 119 "java/lang/IndexOutOfBoundsException" ["java/lang/RuntimeException", "java/lang/Exception"]).filter goodWord ++ (vx_atS RX3 97 "java/lang/IllegalArgumentException" ["java/lang/RuntimeException", "java/lang/Exception"]).filter goodWord)
def wsX3_covers_r1 : List Cond := [Cond.classLink RX3 115 "java/lang/IndexOutOfBoundsException", Cond.initialized "java/lang/IndexOutOfBoundsException", Cond.fieldLink RX3 38 "PuddingstoneLine" "coverSets" "[I", Cond.methodLink RX3 42 yX3_setAt, Cond.instanceMethod yX3_setAt, Cond.selects RX3 yX3_setAt yX3_setAt, Cond.initialized RX3, Cond.code yX3_setAt cX3_setAt 3 (some (.object "PuddingstoneLine$GrainSet")), Cond.methodLink RX3 211 yX3_setOrNull, Cond.instanceMethod yX3_setOrNull, Cond.selects RX3 yX3_setOrNull yX3_setOrNull, Cond.code yX3_setOrNull cX3_setOrNull 2 (some (.object "PuddingstoneLine$GrainSet")), Cond.fieldLink RX3 11 "PuddingstoneLine" "sets" "[LPuddingstoneLine$GrainSet;", Cond.methodLink RX3 161 yX3_checkFamily, Cond.static yX3_checkFamily, Cond.code yX3_checkFamily cX3_checkFamily 1 none, Cond.classLink RX3 93 "java/lang/IllegalArgumentException", Cond.initialized "java/lang/IllegalArgumentException", Cond.methodLink RX3 181 yX3_takeCover, Cond.instanceMethod yX3_takeCover, Cond.selects RX3 yX3_takeCover yX3_takeCover, Cond.code yX3_takeCover cX3_takeCover 8 (some .int), Cond.methodLink RX3 65 yX0_holds, Cond.instanceMethod yX0_holds]
def wsX3_covers_r2 : List Cond := [Cond.selects RX0 yX0_holds yX0_holds, Cond.initialized RX0, Cond.code yX0_holds cX0_holds 2 (some .boolean), Cond.fieldLink RX0 9 "PuddingstoneLine$GrainSet" "grains" "[Z", Cond.methodLink RX3 312 yX3_farthestFrom, Cond.instanceMethod yX3_farthestFrom, Cond.selects RX3 yX3_farthestFrom yX3_farthestFrom, Cond.code yX3_farthestFrom cX3_farthestFrom 7 (some .int), Cond.methodLink RX3 308 yX3_memberOrNull, Cond.instanceMethod yX3_memberOrNull, Cond.selects RX3 yX3_memberOrNull yX3_memberOrNull, Cond.code yX3_memberOrNull cX3_memberOrNull 3 (some (.object "PuddingstoneLine$GrainSet")), Cond.methodLink RX3 315 yX0_lastOfRun, Cond.instanceMethod yX0_lastOfRun, Cond.selects RX0 yX0_lastOfRun yX0_lastOfRun, Cond.code yX0_lastOfRun cX0_lastOfRun 3 (some .int), Cond.methodLink RX0 21 yX0_holds]
def wsX3_covers : List Cond := .code yX3_covers cX3_covers 6 (some .int) :: ((wsX3_covers_r1 ++ wsX3_covers_r2) ++ wsX30 ++ wsX00 ++ (vx_atS RX3 119 "java/lang/IndexOutOfBoundsException" ["java/lang/RuntimeException", "java/lang/Exception"]).filter goodWord ++ (vx_atS RX3 97 "java/lang/IllegalArgumentException" ["java/lang/RuntimeException", "java/lang/Exception"]).filter goodWord)
def wsX3_endsUnpinned : List Cond := .code yX3_endsUnpinned cX3_endsUnpinned 6 (some .boolean) :: ([.methodLink RX3 308 yX3_memberOrNull, .instanceMethod yX3_memberOrNull, .selects RX3 yX3_memberOrNull yX3_memberOrNull, .initialized RX3, .code yX3_memberOrNull cX3_memberOrNull 3 (some (.object "PuddingstoneLine$GrainSet")), .methodLink RX3 211 yX3_setOrNull, .instanceMethod yX3_setOrNull, .selects RX3 yX3_setOrNull yX3_setOrNull, .code yX3_setOrNull cX3_setOrNull 2 (some (.object "PuddingstoneLine$GrainSet")), .fieldLink RX3 11 "PuddingstoneLine" "sets" "[LPuddingstoneLine$GrainSet;", .methodLink RX3 65 yX0_holds, .instanceMethod yX0_holds, .selects RX0 yX0_holds yX0_holds, .initialized RX0, .code yX0_holds cX0_holds 2 (some .boolean), .fieldLink RX0 9 "PuddingstoneLine$GrainSet" "grains" "[Z", .methodLink RX3 322 yX0_firstOfRun, .instanceMethod yX0_firstOfRun, .selects RX0 yX0_firstOfRun yX0_firstOfRun, .code yX0_firstOfRun cX0_firstOfRun 3 (some .int), .methodLink RX0 21 yX0_holds] ++ wsX30 ++ wsX00)
def wsX3_countPins_r1 : List Cond := [Cond.methodLink RX3 318 yX3_endsUnpinned, Cond.instanceMethod yX3_endsUnpinned, Cond.selects RX3 yX3_endsUnpinned yX3_endsUnpinned, Cond.initialized RX3, Cond.code yX3_endsUnpinned cX3_endsUnpinned 6 (some .boolean), Cond.methodLink RX3 308 yX3_memberOrNull, Cond.instanceMethod yX3_memberOrNull, Cond.selects RX3 yX3_memberOrNull yX3_memberOrNull, Cond.code yX3_memberOrNull cX3_memberOrNull 3 (some (.object "PuddingstoneLine$GrainSet")), Cond.methodLink RX3 211 yX3_setOrNull, Cond.instanceMethod yX3_setOrNull, Cond.selects RX3 yX3_setOrNull yX3_setOrNull, Cond.code yX3_setOrNull cX3_setOrNull 2 (some (.object "PuddingstoneLine$GrainSet")), Cond.fieldLink RX3 11 "PuddingstoneLine" "sets" "[LPuddingstoneLine$GrainSet;", Cond.methodLink RX3 65 yX0_holds, Cond.instanceMethod yX0_holds, Cond.selects RX0 yX0_holds yX0_holds, Cond.initialized RX0, Cond.code yX0_holds cX0_holds 2 (some .boolean), Cond.fieldLink RX0 9 "PuddingstoneLine$GrainSet" "grains" "[Z", Cond.methodLink RX3 322 yX0_firstOfRun, Cond.instanceMethod yX0_firstOfRun, Cond.selects RX0 yX0_firstOfRun yX0_firstOfRun, Cond.code yX0_firstOfRun cX0_firstOfRun 3 (some .int)]
def wsX3_countPins_r2 : List Cond := [Cond.methodLink RX0 21 yX0_holds]
def wsX3_countPins : List Cond := .code yX3_countPins cX3_countPins 5 (some .int) :: ((wsX3_countPins_r1 ++ wsX3_countPins_r2) ++ wsX30 ++ wsX00)
def wsX3_apart_r1 : List Cond := [Cond.methodLink RX3 161 yX3_checkFamily, Cond.static yX3_checkFamily, Cond.initialized RX3, Cond.code yX3_checkFamily cX3_checkFamily 1 none, Cond.classLink RX3 93 "java/lang/IllegalArgumentException", Cond.initialized "java/lang/IllegalArgumentException", Cond.methodLink RX3 187 yX3_countPins, Cond.instanceMethod yX3_countPins, Cond.selects RX3 yX3_countPins yX3_countPins, Cond.code yX3_countPins cX3_countPins 5 (some .int), Cond.methodLink RX3 318 yX3_endsUnpinned, Cond.instanceMethod yX3_endsUnpinned, Cond.selects RX3 yX3_endsUnpinned yX3_endsUnpinned, Cond.code yX3_endsUnpinned cX3_endsUnpinned 6 (some .boolean), Cond.methodLink RX3 308 yX3_memberOrNull, Cond.instanceMethod yX3_memberOrNull, Cond.selects RX3 yX3_memberOrNull yX3_memberOrNull, Cond.code yX3_memberOrNull cX3_memberOrNull 3 (some (.object "PuddingstoneLine$GrainSet")), Cond.methodLink RX3 211 yX3_setOrNull, Cond.instanceMethod yX3_setOrNull, Cond.selects RX3 yX3_setOrNull yX3_setOrNull, Cond.code yX3_setOrNull cX3_setOrNull 2 (some (.object "PuddingstoneLine$GrainSet")), Cond.fieldLink RX3 11 "PuddingstoneLine" "sets" "[LPuddingstoneLine$GrainSet;", Cond.methodLink RX3 65 yX0_holds]
def wsX3_apart_r2 : List Cond := [Cond.instanceMethod yX0_holds, Cond.selects RX0 yX0_holds yX0_holds, Cond.initialized RX0, Cond.code yX0_holds cX0_holds 2 (some .boolean), Cond.fieldLink RX0 9 "PuddingstoneLine$GrainSet" "grains" "[Z", Cond.methodLink RX3 322 yX0_firstOfRun, Cond.instanceMethod yX0_firstOfRun, Cond.selects RX0 yX0_firstOfRun yX0_firstOfRun, Cond.code yX0_firstOfRun cX0_firstOfRun 3 (some .int), Cond.methodLink RX0 21 yX0_holds]
def wsX3_apart : List Cond := .code yX3_apart cX3_apart 2 (some .int) :: ((wsX3_apart_r1 ++ wsX3_apart_r2) ++ wsX30 ++ wsX00 ++ (vx_atS RX3 97 "java/lang/IllegalArgumentException" ["java/lang/RuntimeException", "java/lang/Exception"]).filter goodWord)
def wsX3_pins_r1 : List Cond := [Cond.methodLink RX3 161 yX3_checkFamily, Cond.static yX3_checkFamily, Cond.initialized RX3, Cond.code yX3_checkFamily cX3_checkFamily 1 none, Cond.classLink RX3 93 "java/lang/IllegalArgumentException", Cond.initialized "java/lang/IllegalArgumentException", Cond.methodLink RX3 187 yX3_countPins, Cond.instanceMethod yX3_countPins, Cond.selects RX3 yX3_countPins yX3_countPins, Cond.code yX3_countPins cX3_countPins 5 (some .int), Cond.methodLink RX3 318 yX3_endsUnpinned, Cond.instanceMethod yX3_endsUnpinned, Cond.selects RX3 yX3_endsUnpinned yX3_endsUnpinned, Cond.code yX3_endsUnpinned cX3_endsUnpinned 6 (some .boolean), Cond.methodLink RX3 308 yX3_memberOrNull, Cond.instanceMethod yX3_memberOrNull, Cond.selects RX3 yX3_memberOrNull yX3_memberOrNull, Cond.code yX3_memberOrNull cX3_memberOrNull 3 (some (.object "PuddingstoneLine$GrainSet")), Cond.methodLink RX3 211 yX3_setOrNull, Cond.instanceMethod yX3_setOrNull, Cond.selects RX3 yX3_setOrNull yX3_setOrNull, Cond.code yX3_setOrNull cX3_setOrNull 2 (some (.object "PuddingstoneLine$GrainSet")), Cond.fieldLink RX3 11 "PuddingstoneLine" "sets" "[LPuddingstoneLine$GrainSet;", Cond.methodLink RX3 65 yX0_holds]
def wsX3_pins_r2 : List Cond := [Cond.instanceMethod yX0_holds, Cond.selects RX0 yX0_holds yX0_holds, Cond.initialized RX0, Cond.code yX0_holds cX0_holds 2 (some .boolean), Cond.fieldLink RX0 9 "PuddingstoneLine$GrainSet" "grains" "[Z", Cond.methodLink RX3 322 yX0_firstOfRun, Cond.instanceMethod yX0_firstOfRun, Cond.selects RX0 yX0_firstOfRun yX0_firstOfRun, Cond.code yX0_firstOfRun cX0_firstOfRun 3 (some .int), Cond.methodLink RX0 21 yX0_holds]
def wsX3_pins : List Cond := .code yX3_pins cX3_pins 2 (some .int) :: ((wsX3_pins_r1 ++ wsX3_pins_r2) ++ wsX30 ++ wsX00 ++ (vx_atS RX3 97 "java/lang/IllegalArgumentException" ["java/lang/RuntimeException", "java/lang/Exception"]).filter goodWord)
def wsX3_meetWith : List Cond := .code yX3_meetWith cX3_meetWith 8 (some .int) :: ([.methodLink RX3 42 yX3_setAt, .instanceMethod yX3_setAt, .selects RX3 yX3_setAt yX3_setAt, .initialized RX3, .code yX3_setAt cX3_setAt 3 (some (.object "PuddingstoneLine$GrainSet")), .classLink RX3 115 "java/lang/IndexOutOfBoundsException", .initialized "java/lang/IndexOutOfBoundsException", .methodLink RX3 211 yX3_setOrNull, .instanceMethod yX3_setOrNull, .selects RX3 yX3_setOrNull yX3_setOrNull, .code yX3_setOrNull cX3_setOrNull 2 (some (.object "PuddingstoneLine$GrainSet")), .fieldLink RX3 11 "PuddingstoneLine" "sets" "[LPuddingstoneLine$GrainSet;", .methodLink RX3 85 yX3_checkMove, .static yX3_checkMove, .code yX3_checkMove cX3_checkMove 1 none, .classLink RX3 93 "java/lang/IllegalArgumentException", .initialized "java/lang/IllegalArgumentException", .methodLink RX3 65 yX0_holds, .instanceMethod yX0_holds, .selects RX0 yX0_holds yX0_holds, .initialized RX0, .code yX0_holds cX0_holds 2 (some .boolean), .fieldLink RX0 9 "PuddingstoneLine$GrainSet" "grains" "[Z"] ++ wsX30 ++ wsX00 ++ (vx_atS RX3 119 "java/lang/IndexOutOfBoundsException" ["java/lang/RuntimeException", "java/lang/Exception"]).filter goodWord ++ (vx_atS RX3 97 "java/lang/IllegalArgumentException" ["java/lang/RuntimeException", "java/lang/Exception"]).filter goodWord)
def wsX3_clear : List Cond := .code yX3_clear cX3_clear 6 (some .int) :: ([.methodLink RX3 42 yX3_setAt, .instanceMethod yX3_setAt, .selects RX3 yX3_setAt yX3_setAt, .initialized RX3, .code yX3_setAt cX3_setAt 3 (some (.object "PuddingstoneLine$GrainSet")), .classLink RX3 115 "java/lang/IndexOutOfBoundsException", .initialized "java/lang/IndexOutOfBoundsException", .methodLink RX3 211 yX3_setOrNull, .instanceMethod yX3_setOrNull, .selects RX3 yX3_setOrNull yX3_setOrNull, .code yX3_setOrNull cX3_setOrNull 2 (some (.object "PuddingstoneLine$GrainSet")), .fieldLink RX3 11 "PuddingstoneLine" "sets" "[LPuddingstoneLine$GrainSet;", .methodLink RX3 131 yX3_canLie, .static yX3_canLie, .code yX3_canLie cX3_canLie 5 (some .boolean), .methodLink RX3 65 yX0_holds, .instanceMethod yX0_holds, .selects RX0 yX0_holds yX0_holds, .initialized RX0, .code yX0_holds cX0_holds 2 (some .boolean), .fieldLink RX0 9 "PuddingstoneLine$GrainSet" "grains" "[Z"] ++ wsX30 ++ wsX00 ++ (vx_atS RX3 119 "java/lang/IndexOutOfBoundsException" ["java/lang/RuntimeException", "java/lang/Exception"]).filter goodWord)
def wsX3_best : List Cond := .code yX3_best cX3_best 8 (some .int) :: ([.classLink RX3 93 "java/lang/IllegalArgumentException", .initialized "java/lang/IllegalArgumentException", .methodLink RX3 135 yX3_functionAt, .instanceMethod yX3_functionAt, .selects RX3 yX3_functionAt yX3_functionAt, .initialized RX3, .code yX3_functionAt cX3_functionAt 3 (some (.object "PuddingstoneLine$StepFunction")), .classLink RX3 115 "java/lang/IndexOutOfBoundsException", .initialized "java/lang/IndexOutOfBoundsException", .fieldLink RX3 17 "PuddingstoneLine" "functions" "[LPuddingstoneLine$StepFunction;", .methodLink RX3 192 yX3_areaBetween, .static yX3_areaBetween, .code yX3_areaBetween cX3_areaBetween 5 (some .int), .methodLink RX3 141 yX2_at, .instanceMethod yX2_at, .selects RX2 yX2_at yX2_at, .initialized RX2, .code yX2_at cX2_at 2 (some .int), .fieldLink RX2 9 "PuddingstoneLine$StepFunction" "values" "[I"] ++ wsX30 ++ wsX20 ++ (vx_atS RX3 97 "java/lang/IllegalArgumentException" ["java/lang/RuntimeException", "java/lang/Exception"]).filter goodWord ++ (vx_atS RX3 119 "java/lang/IndexOutOfBoundsException" ["java/lang/RuntimeException", "java/lang/Exception"]).filter goodWord)
def wsX3_checkSet : List Cond := .code yX3_checkSet cX3_checkSet 1 none :: ([.classLink RX3 115 "java/lang/IndexOutOfBoundsException", .initialized "java/lang/IndexOutOfBoundsException"] ++ (vx_atS RX3 119 "java/lang/IndexOutOfBoundsException" ["java/lang/RuntimeException", "java/lang/Exception"]).filter goodWord)
def wsX3_saves_r1 : List Cond := [Cond.methodLink RX3 42 yX3_setAt, Cond.instanceMethod yX3_setAt, Cond.selects RX3 yX3_setAt yX3_setAt, Cond.initialized RX3, Cond.code yX3_setAt cX3_setAt 3 (some (.object "PuddingstoneLine$GrainSet")), Cond.classLink RX3 115 "java/lang/IndexOutOfBoundsException", Cond.initialized "java/lang/IndexOutOfBoundsException", Cond.methodLink RX3 211 yX3_setOrNull, Cond.instanceMethod yX3_setOrNull, Cond.selects RX3 yX3_setOrNull yX3_setOrNull, Cond.code yX3_setOrNull cX3_setOrNull 2 (some (.object "PuddingstoneLine$GrainSet")), Cond.fieldLink RX3 11 "PuddingstoneLine" "sets" "[LPuddingstoneLine$GrainSet;", Cond.methodLink RX3 196 yX3_checkSet, Cond.static yX3_checkSet, Cond.code yX3_checkSet cX3_checkSet 1 none, Cond.methodLink RX3 161 yX3_checkFamily, Cond.static yX3_checkFamily, Cond.code yX3_checkFamily cX3_checkFamily 1 none, Cond.classLink RX3 93 "java/lang/IllegalArgumentException", Cond.initialized "java/lang/IllegalArgumentException", Cond.methodLink RX3 181 yX3_takeCover, Cond.instanceMethod yX3_takeCover, Cond.selects RX3 yX3_takeCover yX3_takeCover, Cond.code yX3_takeCover cX3_takeCover 8 (some .int)]
def wsX3_saves_r2 : List Cond := [Cond.fieldLink RX3 38 "PuddingstoneLine" "coverSets" "[I", Cond.methodLink RX3 65 yX0_holds, Cond.instanceMethod yX0_holds, Cond.selects RX0 yX0_holds yX0_holds, Cond.initialized RX0, Cond.code yX0_holds cX0_holds 2 (some .boolean), Cond.fieldLink RX0 9 "PuddingstoneLine$GrainSet" "grains" "[Z", Cond.methodLink RX3 312 yX3_farthestFrom, Cond.instanceMethod yX3_farthestFrom, Cond.selects RX3 yX3_farthestFrom yX3_farthestFrom, Cond.code yX3_farthestFrom cX3_farthestFrom 7 (some .int), Cond.methodLink RX3 308 yX3_memberOrNull, Cond.instanceMethod yX3_memberOrNull, Cond.selects RX3 yX3_memberOrNull yX3_memberOrNull, Cond.code yX3_memberOrNull cX3_memberOrNull 3 (some (.object "PuddingstoneLine$GrainSet")), Cond.methodLink RX3 315 yX0_lastOfRun, Cond.instanceMethod yX0_lastOfRun, Cond.selects RX0 yX0_lastOfRun yX0_lastOfRun, Cond.code yX0_lastOfRun cX0_lastOfRun 3 (some .int), Cond.methodLink RX0 21 yX0_holds]
def wsX3_saves : List Cond := .code yX3_saves cX3_saves 7 (some .int) :: ((wsX3_saves_r1 ++ wsX3_saves_r2) ++ wsX30 ++ wsX00 ++ (vx_atS RX3 119 "java/lang/IndexOutOfBoundsException" ["java/lang/RuntimeException", "java/lang/Exception"]).filter goodWord ++ (vx_atS RX3 97 "java/lang/IllegalArgumentException" ["java/lang/RuntimeException", "java/lang/Exception"]).filter goodWord)
def wsX3_digestOfSet_r1 : List Cond := [Cond.constantLong RX3 209 (31), Cond.fieldLink RX3 34 "PuddingstoneLine" "spanRow" "LPuddingstoneLine$SpanRow;", Cond.methodLink RX3 104 yX3_factOfSet, Cond.instanceMethod yX3_factOfSet, Cond.selects RX3 yX3_factOfSet yX3_factOfSet, Cond.initialized RX3, Cond.code yX3_factOfSet cX3_factOfSet 3 (some .int), Cond.methodLink RX3 77 yX0_count, Cond.instanceMethod yX0_count, Cond.selects RX0 yX0_count yX0_count, Cond.initialized RX0, Cond.code yX0_count cX0_count 3 (some .int), Cond.methodLink RX0 21 yX0_holds, Cond.instanceMethod yX0_holds, Cond.selects RX0 yX0_holds yX0_holds, Cond.code yX0_holds cX0_holds 2 (some .boolean), Cond.fieldLink RX0 9 "PuddingstoneLine$GrainSet" "grains" "[Z", Cond.methodLink RX3 108 yX1_readRuns, Cond.instanceMethod yX1_readRuns, Cond.selects RX1 yX1_readRuns yX1_readRuns, Cond.initialized RX1, Cond.code yX1_readRuns cX1_readRuns 4 none, Cond.fieldLink RX1 18 "PuddingstoneLine$SpanRow" "size" "I", Cond.methodLink RX1 22 yX0_holds]
def wsX3_digestOfSet_r2 : List Cond := [Cond.methodLink RX1 28 yX1_begin, Cond.instanceMethod yX1_begin, Cond.selects RX1 yX1_begin yX1_begin, Cond.code yX1_begin cX1_begin 2 none, Cond.fieldLink RX1 9 "PuddingstoneLine$SpanRow" "firsts" "[I", Cond.methodLink RX1 32 yX1_extend, Cond.instanceMethod yX1_extend, Cond.selects RX1 yX1_extend yX1_extend, Cond.code yX1_extend cX1_extend 2 none, Cond.fieldLink RX1 15 "PuddingstoneLine$SpanRow" "lasts" "[I", Cond.methodLink RX3 112 yX1_size, Cond.instanceMethod yX1_size, Cond.selects RX1 yX1_size yX1_size, Cond.code yX1_size cX1_size 1 (some .int), Cond.methodLink RX3 175 yX0_length, Cond.instanceMethod yX0_length, Cond.selects RX0 yX0_length yX0_length, Cond.code yX0_length cX0_length 3 (some .int), Cond.methodLink RX3 261 yX1_lonePoints, Cond.instanceMethod yX1_lonePoints, Cond.selects RX1 yX1_lonePoints yX1_lonePoints, Cond.code yX1_lonePoints cX1_lonePoints 3 (some .int), Cond.methodLink RX1 49 yX1_length, Cond.instanceMethod yX1_length]
def wsX3_digestOfSet_r3 : List Cond := [Cond.selects RX1 yX1_length yX1_length, Cond.code yX1_length cX1_length 2 (some .int), Cond.methodLink RX1 35 yX1_fact, Cond.instanceMethod yX1_fact, Cond.selects RX1 yX1_fact yX1_fact, Cond.code yX1_fact cX1_fact 3 (some .int), Cond.methodLink RX1 39 yX1_first, Cond.instanceMethod yX1_first, Cond.selects RX1 yX1_first yX1_first, Cond.code yX1_first cX1_first 2 (some .int), Cond.methodLink RX1 43 yX1_last, Cond.instanceMethod yX1_last, Cond.selects RX1 yX1_last yX1_last, Cond.code yX1_last cX1_last 2 (some .int), Cond.static yX3_isPoint, Cond.code yX3_isPoint cX3_isPoint 1 (some .boolean), Cond.methodLink RX3 249 yX1_longest, Cond.instanceMethod yX1_longest, Cond.selects RX1 yX1_longest yX1_longest, Cond.code yX1_longest cX1_longest 3 (some .int), Cond.methodLink RX3 264 yX1_length, Cond.methodLink RX3 120 yX1_fact]
def wsX3_digestOfSet : List Cond := .code yX3_digestOfSet cX3_digestOfSet 8 (some .long) :: ((wsX3_digestOfSet_r1 ++ (wsX3_digestOfSet_r2 ++ wsX3_digestOfSet_r3)) ++ wsX30 ++ wsX00 ++ wsX10)
def wsX3_digestOfFunction_r1 : List Cond := [Cond.constantLong RX3 209 (31), Cond.methodLink RX3 167 yX3_factOfFunction, Cond.static yX3_factOfFunction, Cond.initialized RX3, Cond.code yX3_factOfFunction cX3_factOfFunction 2 (some .int), Cond.methodLink RX3 147 yX2_steps, Cond.instanceMethod yX2_steps, Cond.selects RX2 yX2_steps yX2_steps, Cond.initialized RX2, Cond.code yX2_steps cX2_steps 3 (some .int), Cond.methodLink RX2 24 yX2_at, Cond.instanceMethod yX2_at, Cond.selects RX2 yX2_at yX2_at, Cond.code yX2_at cX2_at 2 (some .int), Cond.fieldLink RX2 9 "PuddingstoneLine$StepFunction" "values" "[I", Cond.methodLink RX3 299 yX2_least, Cond.instanceMethod yX2_least, Cond.selects RX2 yX2_least yX2_least, Cond.code yX2_least cX2_least 5 (some .int), Cond.methodLink RX2 21 Lib.Math.max.name, Cond.static Lib.Math.max.name, Cond.initialized "java/lang/Math", Cond.code Lib.Math.max.name Lib.Math.max.code 2 (some .int), Cond.methodLink RX2 15 Lib.Math.min.name]
def wsX3_digestOfFunction_r2 : List Cond := [Cond.static Lib.Math.min.name, Cond.code Lib.Math.min.name Lib.Math.min.code 2 (some .int), Cond.methodLink RX3 302 yX2_greatest, Cond.instanceMethod yX2_greatest, Cond.selects RX2 yX2_greatest yX2_greatest, Cond.code yX2_greatest cX2_greatest 5 (some .int), Cond.methodLink RX3 305 yX2_firstGreatest, Cond.instanceMethod yX2_firstGreatest, Cond.selects RX2 yX2_firstGreatest yX2_firstGreatest, Cond.code yX2_firstGreatest cX2_firstGreatest 3 (some .int), Cond.methodLink RX3 192 yX3_areaBetween, Cond.static yX3_areaBetween, Cond.code yX3_areaBetween cX3_areaBetween 5 (some .int), Cond.methodLink RX3 141 yX2_at]
def wsX3_digestOfFunction : List Cond := .code yX3_digestOfFunction cX3_digestOfFunction 6 (some .long) :: ((wsX3_digestOfFunction_r1 ++ wsX3_digestOfFunction_r2) ++ wsX20)
def wsX3_digest_r1 : List Cond := [Cond.constantLong RX3 199 (965), Cond.constantLong RX3 209 (31), Cond.methodLink RX3 42 yX3_setAt, Cond.instanceMethod yX3_setAt, Cond.selects RX3 yX3_setAt yX3_setAt, Cond.initialized RX3, Cond.code yX3_setAt cX3_setAt 3 (some (.object "PuddingstoneLine$GrainSet")), Cond.classLink RX3 115 "java/lang/IndexOutOfBoundsException", Cond.initialized "java/lang/IndexOutOfBoundsException", Cond.methodLink RX3 211 yX3_setOrNull, Cond.instanceMethod yX3_setOrNull, Cond.selects RX3 yX3_setOrNull yX3_setOrNull, Cond.code yX3_setOrNull cX3_setOrNull 2 (some (.object "PuddingstoneLine$GrainSet")), Cond.fieldLink RX3 11 "PuddingstoneLine" "sets" "[LPuddingstoneLine$GrainSet;", Cond.methodLink RX3 201 yX3_digestOfSet, Cond.instanceMethod yX3_digestOfSet, Cond.selects RX3 yX3_digestOfSet yX3_digestOfSet, Cond.code yX3_digestOfSet cX3_digestOfSet 8 (some .long), Cond.fieldLink RX3 34 "PuddingstoneLine" "spanRow" "LPuddingstoneLine$SpanRow;", Cond.methodLink RX3 104 yX3_factOfSet, Cond.instanceMethod yX3_factOfSet, Cond.selects RX3 yX3_factOfSet yX3_factOfSet, Cond.code yX3_factOfSet cX3_factOfSet 3 (some .int), Cond.methodLink RX3 77 yX0_count]
def wsX3_digest_r2 : List Cond := [Cond.instanceMethod yX0_count, Cond.selects RX0 yX0_count yX0_count, Cond.initialized RX0, Cond.code yX0_count cX0_count 3 (some .int), Cond.methodLink RX0 21 yX0_holds, Cond.instanceMethod yX0_holds, Cond.selects RX0 yX0_holds yX0_holds, Cond.code yX0_holds cX0_holds 2 (some .boolean), Cond.fieldLink RX0 9 "PuddingstoneLine$GrainSet" "grains" "[Z", Cond.methodLink RX3 108 yX1_readRuns, Cond.instanceMethod yX1_readRuns, Cond.selects RX1 yX1_readRuns yX1_readRuns, Cond.initialized RX1, Cond.code yX1_readRuns cX1_readRuns 4 none, Cond.fieldLink RX1 18 "PuddingstoneLine$SpanRow" "size" "I", Cond.methodLink RX1 22 yX0_holds, Cond.methodLink RX1 28 yX1_begin, Cond.instanceMethod yX1_begin, Cond.selects RX1 yX1_begin yX1_begin, Cond.code yX1_begin cX1_begin 2 none, Cond.fieldLink RX1 9 "PuddingstoneLine$SpanRow" "firsts" "[I", Cond.methodLink RX1 32 yX1_extend, Cond.instanceMethod yX1_extend, Cond.selects RX1 yX1_extend yX1_extend]
def wsX3_digest_r3 : List Cond := [Cond.code yX1_extend cX1_extend 2 none, Cond.fieldLink RX1 15 "PuddingstoneLine$SpanRow" "lasts" "[I", Cond.methodLink RX3 112 yX1_size, Cond.instanceMethod yX1_size, Cond.selects RX1 yX1_size yX1_size, Cond.code yX1_size cX1_size 1 (some .int), Cond.methodLink RX3 175 yX0_length, Cond.instanceMethod yX0_length, Cond.selects RX0 yX0_length yX0_length, Cond.code yX0_length cX0_length 3 (some .int), Cond.methodLink RX3 261 yX1_lonePoints, Cond.instanceMethod yX1_lonePoints, Cond.selects RX1 yX1_lonePoints yX1_lonePoints, Cond.code yX1_lonePoints cX1_lonePoints 3 (some .int), Cond.methodLink RX1 49 yX1_length, Cond.instanceMethod yX1_length, Cond.selects RX1 yX1_length yX1_length, Cond.code yX1_length cX1_length 2 (some .int), Cond.methodLink RX1 35 yX1_fact, Cond.instanceMethod yX1_fact, Cond.selects RX1 yX1_fact yX1_fact, Cond.code yX1_fact cX1_fact 3 (some .int), Cond.methodLink RX1 39 yX1_first, Cond.instanceMethod yX1_first]
def wsX3_digest_r4 : List Cond := [Cond.selects RX1 yX1_first yX1_first, Cond.code yX1_first cX1_first 2 (some .int), Cond.methodLink RX1 43 yX1_last, Cond.instanceMethod yX1_last, Cond.selects RX1 yX1_last yX1_last, Cond.code yX1_last cX1_last 2 (some .int), Cond.static yX3_isPoint, Cond.code yX3_isPoint cX3_isPoint 1 (some .boolean), Cond.methodLink RX3 249 yX1_longest, Cond.instanceMethod yX1_longest, Cond.selects RX1 yX1_longest yX1_longest, Cond.code yX1_longest cX1_longest 3 (some .int), Cond.methodLink RX3 264 yX1_length, Cond.methodLink RX3 120 yX1_fact, Cond.methodLink RX3 135 yX3_functionAt, Cond.instanceMethod yX3_functionAt, Cond.selects RX3 yX3_functionAt yX3_functionAt, Cond.code yX3_functionAt cX3_functionAt 3 (some (.object "PuddingstoneLine$StepFunction")), Cond.fieldLink RX3 17 "PuddingstoneLine" "functions" "[LPuddingstoneLine$StepFunction;", Cond.methodLink RX3 205 yX3_digestOfFunction, Cond.static yX3_digestOfFunction, Cond.code yX3_digestOfFunction cX3_digestOfFunction 6 (some .long), Cond.methodLink RX3 167 yX3_factOfFunction, Cond.static yX3_factOfFunction]
def wsX3_digest_r5 : List Cond := [Cond.code yX3_factOfFunction cX3_factOfFunction 2 (some .int), Cond.methodLink RX3 147 yX2_steps, Cond.instanceMethod yX2_steps, Cond.selects RX2 yX2_steps yX2_steps, Cond.initialized RX2, Cond.code yX2_steps cX2_steps 3 (some .int), Cond.methodLink RX2 24 yX2_at, Cond.instanceMethod yX2_at, Cond.selects RX2 yX2_at yX2_at, Cond.code yX2_at cX2_at 2 (some .int), Cond.fieldLink RX2 9 "PuddingstoneLine$StepFunction" "values" "[I", Cond.methodLink RX3 299 yX2_least, Cond.instanceMethod yX2_least, Cond.selects RX2 yX2_least yX2_least, Cond.code yX2_least cX2_least 5 (some .int), Cond.methodLink RX2 21 Lib.Math.max.name, Cond.static Lib.Math.max.name, Cond.initialized "java/lang/Math", Cond.code Lib.Math.max.name Lib.Math.max.code 2 (some .int), Cond.methodLink RX2 15 Lib.Math.min.name, Cond.static Lib.Math.min.name, Cond.code Lib.Math.min.name Lib.Math.min.code 2 (some .int), Cond.methodLink RX3 302 yX2_greatest, Cond.instanceMethod yX2_greatest]
def wsX3_digest_r6 : List Cond := [Cond.selects RX2 yX2_greatest yX2_greatest, Cond.code yX2_greatest cX2_greatest 5 (some .int), Cond.methodLink RX3 305 yX2_firstGreatest, Cond.instanceMethod yX2_firstGreatest, Cond.selects RX2 yX2_firstGreatest yX2_firstGreatest, Cond.code yX2_firstGreatest cX2_firstGreatest 3 (some .int), Cond.methodLink RX3 192 yX3_areaBetween, Cond.static yX3_areaBetween, Cond.code yX3_areaBetween cX3_areaBetween 5 (some .int), Cond.methodLink RX3 141 yX2_at, Cond.methodLink RX3 178 yX3_countThicker, Cond.instanceMethod yX3_countThicker, Cond.selects RX3 yX3_countThicker yX3_countThicker, Cond.code yX3_countThicker cX3_countThicker 5 (some .int), Cond.methodLink RX3 164 yX3_thickness, Cond.instanceMethod yX3_thickness, Cond.selects RX3 yX3_thickness yX3_thickness, Cond.code yX3_thickness cX3_thickness 6 (some .int), Cond.methodLink RX3 308 yX3_memberOrNull, Cond.instanceMethod yX3_memberOrNull, Cond.selects RX3 yX3_memberOrNull yX3_memberOrNull, Cond.code yX3_memberOrNull cX3_memberOrNull 3 (some (.object "PuddingstoneLine$GrainSet")), Cond.methodLink RX3 65 yX0_holds, Cond.methodLink RX3 187 yX3_countPins]
def wsX3_digest_r7 : List Cond := [Cond.instanceMethod yX3_countPins, Cond.selects RX3 yX3_countPins yX3_countPins, Cond.code yX3_countPins cX3_countPins 5 (some .int), Cond.methodLink RX3 318 yX3_endsUnpinned, Cond.instanceMethod yX3_endsUnpinned, Cond.selects RX3 yX3_endsUnpinned yX3_endsUnpinned, Cond.code yX3_endsUnpinned cX3_endsUnpinned 6 (some .boolean), Cond.methodLink RX3 322 yX0_firstOfRun, Cond.instanceMethod yX0_firstOfRun, Cond.selects RX0 yX0_firstOfRun yX0_firstOfRun, Cond.code yX0_firstOfRun cX0_firstOfRun 3 (some .int), Cond.methodLink RX3 181 yX3_takeCover, Cond.instanceMethod yX3_takeCover, Cond.selects RX3 yX3_takeCover yX3_takeCover, Cond.code yX3_takeCover cX3_takeCover 8 (some .int), Cond.fieldLink RX3 38 "PuddingstoneLine" "coverSets" "[I", Cond.methodLink RX3 312 yX3_farthestFrom, Cond.instanceMethod yX3_farthestFrom, Cond.selects RX3 yX3_farthestFrom yX3_farthestFrom, Cond.code yX3_farthestFrom cX3_farthestFrom 7 (some .int), Cond.methodLink RX3 315 yX0_lastOfRun, Cond.instanceMethod yX0_lastOfRun, Cond.selects RX0 yX0_lastOfRun yX0_lastOfRun, Cond.code yX0_lastOfRun cX0_lastOfRun 3 (some .int)]
def wsX3_digest : List Cond := .code yX3_digest cX3_digest 4 (some .long) :: ((wsX3_digest_r1 ++ (wsX3_digest_r2 ++ (wsX3_digest_r3 ++ (wsX3_digest_r4 ++ (wsX3_digest_r5 ++ (wsX3_digest_r6 ++ wsX3_digest_r7)))))) ++ wsX30 ++ wsX00 ++ wsX10 ++ wsX20 ++ (vx_atS RX3 119 "java/lang/IndexOutOfBoundsException" ["java/lang/RuntimeException", "java/lang/Exception"]).filter goodWord)
def wsX4_init : List Cond := .code yX4_init cX4_init 1 none :: ([.methodLink RX4 1 objectInit, .instanceMethod objectInit, .code objectInit ⟨#[0xb1]⟩ 1 none, .classLink RX4 9 "[[Z", .arrayClass .boolean, .fieldLink RX4 11 "PuddingstoneLineModel" "sets" "[[Z", .classLink RX4 14 "[[I", .arrayClass .int, .fieldLink RX4 16 "PuddingstoneLineModel" "values" "[[I"] ++ wsX40)
def wsX4_thrown : List Cond := .code yX4_thrown cX4_thrown 1 (some .int) :: ([.fieldLink RX4 19 "PuddingstoneLineModel" "thrown" "I"] ++ wsX40)
def wsX4_no : List Cond := .code yX4_no cX4_no 2 (some .int) :: ([.fieldLink RX4 19 "PuddingstoneLineModel" "thrown" "I"] ++ wsX40)
def wsX4_isIn : List Cond := .code yX4_isIn cX4_isIn 3 (some .boolean) :: ([])
def wsX4_isSet : List Cond := .code yX4_isSet cX4_isSet 1 (some .boolean) :: ([.methodLink RX4 23 yX4_isIn, .static yX4_isIn, .initialized RX4, .code yX4_isIn cX4_isIn 3 (some .boolean)])
def wsX4_isFunction : List Cond := .code yX4_isFunction cX4_isFunction 1 (some .boolean) :: ([.methodLink RX4 23 yX4_isIn, .static yX4_isIn, .initialized RX4, .code yX4_isIn cX4_isIn 3 (some .boolean)])
def wsX4_isSpan : List Cond := .code yX4_isSpan cX4_isSpan 3 (some .boolean) :: ([.methodLink RX4 23 yX4_isIn, .static yX4_isIn, .initialized RX4, .code yX4_isIn cX4_isIn 3 (some .boolean)])
def wsX4_isWithin : List Cond := .code yX4_isWithin cX4_isWithin 6 (some .boolean) :: ([.methodLink RX4 23 yX4_isIn, .static yX4_isIn, .initialized RX4, .code yX4_isIn cX4_isIn 3 (some .boolean)])
def wsX4_count : List Cond := .code yX4_count cX4_count 6 (some .int) :: ([])
def wsX4_first : List Cond := .code yX4_first cX4_first 4 (some .int) :: ([])
def wsX4_others : List Cond := .code yX4_others cX4_others 3 (some (.array .boolean)) :: ([.arrayClass .boolean])
def wsX4_spans : List Cond := .code yX4_spans cX4_spans 3 (some .int) :: ([.methodLink RX4 27 yX4_first, .static yX4_first, .initialized RX4, .code yX4_first cX4_first 4 (some .int)])
def wsX4_begin : List Cond := .code yX4_begin cX4_begin 4 (some .int) :: ([.methodLink RX4 27 yX4_first, .static yX4_first, .initialized RX4, .code yX4_first cX4_first 4 (some .int)])
def wsX4_longOf : List Cond := .code yX4_longOf cX4_longOf 2 (some .int) :: ([])
def wsX4_longOf_ : List Cond := .code yX4_longOf_ cX4_longOf_ 3 (some .int) :: ([])
def wsX4_longest : List Cond := .code yX4_longest cX4_longest 3 (some .int) :: ([.methodLink RX4 35 Lib.Math.max.name, .static Lib.Math.max.name, .initialized "java/lang/Math", .code Lib.Math.max.name Lib.Math.max.code 2 (some .int), .methodLink RX4 27 yX4_first, .static yX4_first, .initialized RX4, .code yX4_first cX4_first 4 (some .int), .methodLink RX4 31 yX4_longOf, .static yX4_longOf, .code yX4_longOf cX4_longOf 2 (some .int)])
def wsX4_isAt : List Cond := .code yX4_isAt cX4_isAt 2 (some .boolean) :: ([])
def wsX4_isAlone : List Cond := .code yX4_isAlone cX4_isAlone 2 (some .boolean) :: ([.methodLink RX4 44 yX4_isAt, .static yX4_isAt, .initialized RX4, .code yX4_isAt cX4_isAt 2 (some .boolean)])
def wsX4_alone : List Cond := .code yX4_alone cX4_alone 3 (some .int) :: ([.methodLink RX4 40 yX4_isAlone, .static yX4_isAlone, .initialized RX4, .code yX4_isAlone cX4_isAlone 2 (some .boolean), .methodLink RX4 44 yX4_isAt, .static yX4_isAt, .code yX4_isAt cX4_isAt 2 (some .boolean)])
def wsX4_span : List Cond := .code yX4_span cX4_span 8 (some .int) :: ([.fieldLink RX4 19 "PuddingstoneLineModel" "thrown" "I", .fieldLink RX4 11 "PuddingstoneLineModel" "sets" "[[Z", .methodLink RX4 47 yX4_isSet, .static yX4_isSet, .initialized RX4, .code yX4_isSet cX4_isSet 1 (some .boolean), .methodLink RX4 23 yX4_isIn, .static yX4_isIn, .code yX4_isIn cX4_isIn 3 (some .boolean), .methodLink RX4 51 yX4_no, .instanceMethod yX4_no, .selects RX4 yX4_no yX4_no, .code yX4_no cX4_no 2 (some .int), .methodLink RX4 55 yX4_isSpan, .static yX4_isSpan, .code yX4_isSpan cX4_isSpan 3 (some .boolean), .methodLink RX4 58 yX4_isWithin, .static yX4_isWithin, .code yX4_isWithin cX4_isWithin 6 (some .boolean)] ++ wsX40)
def wsX4_join : List Cond := .code yX4_join cX4_join 9 (some .int) :: ([.fieldLink RX4 19 "PuddingstoneLineModel" "thrown" "I", .arrayClass .boolean, .fieldLink RX4 11 "PuddingstoneLineModel" "sets" "[[Z", .methodLink RX4 47 yX4_isSet, .static yX4_isSet, .initialized RX4, .code yX4_isSet cX4_isSet 1 (some .boolean), .methodLink RX4 23 yX4_isIn, .static yX4_isIn, .code yX4_isIn cX4_isIn 3 (some .boolean), .methodLink RX4 51 yX4_no, .instanceMethod yX4_no, .selects RX4 yX4_no yX4_no, .code yX4_no cX4_no 2 (some .int), .methodLink RX4 62 yX4_count, .static yX4_count, .code yX4_count cX4_count 6 (some .int)] ++ wsX40)
def wsX4_changed : List Cond := .code yX4_changed cX4_changed 9 (some (.array .boolean)) :: ([.arrayClass .boolean, .methodLink RX4 66 yX4_longest, .static yX4_longest, .initialized RX4, .code yX4_longest cX4_longest 3 (some .int), .methodLink RX4 35 Lib.Math.max.name, .static Lib.Math.max.name, .initialized "java/lang/Math", .code Lib.Math.max.name Lib.Math.max.code 2 (some .int), .methodLink RX4 27 yX4_first, .static yX4_first, .code yX4_first cX4_first 4 (some .int), .methodLink RX4 31 yX4_longOf, .static yX4_longOf, .code yX4_longOf cX4_longOf 2 (some .int), .methodLink RX4 44 yX4_isAt, .static yX4_isAt, .code yX4_isAt cX4_isAt 2 (some .boolean), .methodLink RX4 40 yX4_isAlone, .static yX4_isAlone, .code yX4_isAlone cX4_isAlone 2 (some .boolean)])
def wsX4_change_r1 : List Cond := [Cond.fieldLink RX4 19 "PuddingstoneLineModel" "thrown" "I", Cond.fieldLink RX4 11 "PuddingstoneLineModel" "sets" "[[Z", Cond.methodLink RX4 47 yX4_isSet, Cond.static yX4_isSet, Cond.initialized RX4, Cond.code yX4_isSet cX4_isSet 1 (some .boolean), Cond.methodLink RX4 23 yX4_isIn, Cond.static yX4_isIn, Cond.code yX4_isIn cX4_isIn 3 (some .boolean), Cond.methodLink RX4 51 yX4_no, Cond.instanceMethod yX4_no, Cond.selects RX4 yX4_no yX4_no, Cond.code yX4_no cX4_no 2 (some .int), Cond.methodLink RX4 69 yX4_changed, Cond.static yX4_changed, Cond.code yX4_changed cX4_changed 9 (some (.array .boolean)), Cond.arrayClass .boolean, Cond.methodLink RX4 66 yX4_longest, Cond.static yX4_longest, Cond.code yX4_longest cX4_longest 3 (some .int), Cond.methodLink RX4 35 Lib.Math.max.name, Cond.static Lib.Math.max.name, Cond.initialized "java/lang/Math", Cond.code Lib.Math.max.name Lib.Math.max.code 2 (some .int)]
def wsX4_change_r2 : List Cond := [Cond.methodLink RX4 27 yX4_first, Cond.static yX4_first, Cond.code yX4_first cX4_first 4 (some .int), Cond.methodLink RX4 31 yX4_longOf, Cond.static yX4_longOf, Cond.code yX4_longOf cX4_longOf 2 (some .int), Cond.methodLink RX4 44 yX4_isAt, Cond.static yX4_isAt, Cond.code yX4_isAt cX4_isAt 2 (some .boolean), Cond.methodLink RX4 40 yX4_isAlone, Cond.static yX4_isAlone, Cond.code yX4_isAlone cX4_isAlone 2 (some .boolean), Cond.methodLink RX4 62 yX4_count, Cond.static yX4_count, Cond.code yX4_count cX4_count 6 (some .int)]
def wsX4_change : List Cond := .code yX4_change cX4_change 3 (some .int) :: ((wsX4_change_r1 ++ wsX4_change_r2) ++ wsX40)
def wsX4_moved : List Cond := .code yX4_moved cX4_moved 4 (some (.array .boolean)) :: ([.arrayClass .boolean, .methodLink RX4 44 yX4_isAt, .static yX4_isAt, .initialized RX4, .code yX4_isAt cX4_isAt 2 (some .boolean)])
def wsX4_move : List Cond := .code yX4_move cX4_move 3 (some .int) :: ([.fieldLink RX4 19 "PuddingstoneLineModel" "thrown" "I", .fieldLink RX4 11 "PuddingstoneLineModel" "sets" "[[Z", .methodLink RX4 47 yX4_isSet, .static yX4_isSet, .initialized RX4, .code yX4_isSet cX4_isSet 1 (some .boolean), .methodLink RX4 23 yX4_isIn, .static yX4_isIn, .code yX4_isIn cX4_isIn 3 (some .boolean), .methodLink RX4 51 yX4_no, .instanceMethod yX4_no, .selects RX4 yX4_no yX4_no, .code yX4_no cX4_no 2 (some .int), .methodLink RX4 73 yX4_moved, .static yX4_moved, .code yX4_moved cX4_moved 4 (some (.array .boolean)), .arrayClass .boolean, .methodLink RX4 44 yX4_isAt, .static yX4_isAt, .code yX4_isAt cX4_isAt 2 (some .boolean), .methodLink RX4 62 yX4_count, .static yX4_count, .code yX4_count cX4_count 6 (some .int)] ++ wsX40)
def wsX4_stretch : List Cond := .code yX4_stretch cX4_stretch 5 (some .int) :: ([.fieldLink RX4 19 "PuddingstoneLineModel" "thrown" "I", .arrayClass .boolean, .fieldLink RX4 11 "PuddingstoneLineModel" "sets" "[[Z", .methodLink RX4 47 yX4_isSet, .static yX4_isSet, .initialized RX4, .code yX4_isSet cX4_isSet 1 (some .boolean), .methodLink RX4 23 yX4_isIn, .static yX4_isIn, .code yX4_isIn cX4_isIn 3 (some .boolean), .methodLink RX4 51 yX4_no, .instanceMethod yX4_no, .selects RX4 yX4_no yX4_no, .code yX4_no cX4_no 2 (some .int), .methodLink RX4 62 yX4_count, .static yX4_count, .code yX4_count cX4_count 6 (some .int)] ++ wsX40)
def wsX4_ofNow_r1 : List Cond := [Cond.fieldLink RX4 11 "PuddingstoneLineModel" "sets" "[[Z", Cond.methodLink RX4 62 yX4_count, Cond.static yX4_count, Cond.initialized RX4, Cond.code yX4_count cX4_count 6 (some .int), Cond.methodLink RX4 76 yX4_spans, Cond.static yX4_spans, Cond.code yX4_spans cX4_spans 3 (some .int), Cond.methodLink RX4 27 yX4_first, Cond.static yX4_first, Cond.code yX4_first cX4_first 4 (some .int), Cond.methodLink RX4 79 yX4_longOf_, Cond.static yX4_longOf_, Cond.code yX4_longOf_ cX4_longOf_ 3 (some .int), Cond.methodLink RX4 81 yX4_alone, Cond.static yX4_alone, Cond.code yX4_alone cX4_alone 3 (some .int), Cond.methodLink RX4 40 yX4_isAlone, Cond.static yX4_isAlone, Cond.code yX4_isAlone cX4_isAlone 2 (some .boolean), Cond.methodLink RX4 44 yX4_isAt, Cond.static yX4_isAt, Cond.code yX4_isAt cX4_isAt 2 (some .boolean), Cond.methodLink RX4 84 yX4_others]
def wsX4_ofNow_r2 : List Cond := [Cond.static yX4_others, Cond.code yX4_others cX4_others 3 (some (.array .boolean)), Cond.arrayClass .boolean, Cond.methodLink RX4 66 yX4_longest, Cond.static yX4_longest, Cond.code yX4_longest cX4_longest 3 (some .int), Cond.methodLink RX4 35 Lib.Math.max.name, Cond.static Lib.Math.max.name, Cond.initialized "java/lang/Math", Cond.code Lib.Math.max.name Lib.Math.max.code 2 (some .int), Cond.methodLink RX4 31 yX4_longOf, Cond.static yX4_longOf, Cond.code yX4_longOf cX4_longOf 2 (some .int)]
def wsX4_ofNow : List Cond := .code yX4_ofNow cX4_ofNow 4 (some .int) :: ((wsX4_ofNow_r1 ++ wsX4_ofNow_r2) ++ wsX40)
def wsX4_ofSet_r1 : List Cond := [Cond.fieldLink RX4 19 "PuddingstoneLineModel" "thrown" "I", Cond.methodLink RX4 47 yX4_isSet, Cond.static yX4_isSet, Cond.initialized RX4, Cond.code yX4_isSet cX4_isSet 1 (some .boolean), Cond.methodLink RX4 23 yX4_isIn, Cond.static yX4_isIn, Cond.code yX4_isIn cX4_isIn 3 (some .boolean), Cond.methodLink RX4 51 yX4_no, Cond.instanceMethod yX4_no, Cond.selects RX4 yX4_no yX4_no, Cond.code yX4_no cX4_no 2 (some .int), Cond.methodLink RX4 88 yX4_ofNow, Cond.instanceMethod yX4_ofNow, Cond.selects RX4 yX4_ofNow yX4_ofNow, Cond.code yX4_ofNow cX4_ofNow 4 (some .int), Cond.fieldLink RX4 11 "PuddingstoneLineModel" "sets" "[[Z", Cond.methodLink RX4 62 yX4_count, Cond.static yX4_count, Cond.code yX4_count cX4_count 6 (some .int), Cond.methodLink RX4 76 yX4_spans, Cond.static yX4_spans, Cond.code yX4_spans cX4_spans 3 (some .int), Cond.methodLink RX4 27 yX4_first]
def wsX4_ofSet_r2 : List Cond := [Cond.static yX4_first, Cond.code yX4_first cX4_first 4 (some .int), Cond.methodLink RX4 79 yX4_longOf_, Cond.static yX4_longOf_, Cond.code yX4_longOf_ cX4_longOf_ 3 (some .int), Cond.methodLink RX4 81 yX4_alone, Cond.static yX4_alone, Cond.code yX4_alone cX4_alone 3 (some .int), Cond.methodLink RX4 40 yX4_isAlone, Cond.static yX4_isAlone, Cond.code yX4_isAlone cX4_isAlone 2 (some .boolean), Cond.methodLink RX4 44 yX4_isAt, Cond.static yX4_isAt, Cond.code yX4_isAt cX4_isAt 2 (some .boolean), Cond.methodLink RX4 84 yX4_others, Cond.static yX4_others, Cond.code yX4_others cX4_others 3 (some (.array .boolean)), Cond.arrayClass .boolean, Cond.methodLink RX4 66 yX4_longest, Cond.static yX4_longest, Cond.code yX4_longest cX4_longest 3 (some .int), Cond.methodLink RX4 35 Lib.Math.max.name, Cond.static Lib.Math.max.name, Cond.initialized "java/lang/Math"]
def wsX4_ofSet_r3 : List Cond := [Cond.code Lib.Math.max.name Lib.Math.max.code 2 (some .int), Cond.methodLink RX4 31 yX4_longOf, Cond.static yX4_longOf, Cond.code yX4_longOf cX4_longOf 2 (some .int)]
def wsX4_ofSet : List Cond := .code yX4_ofSet cX4_ofSet 3 (some .int) :: ((wsX4_ofSet_r1 ++ (wsX4_ofSet_r2 ++ wsX4_ofSet_r3)) ++ wsX40)
def wsX4_spanNow : List Cond := .code yX4_spanNow cX4_spanNow 3 (some .int) :: ([])
def wsX4_ofSpan : List Cond := .code yX4_ofSpan cX4_ofSpan 5 (some .int) :: ([.fieldLink RX4 19 "PuddingstoneLineModel" "thrown" "I", .fieldLink RX4 11 "PuddingstoneLineModel" "sets" "[[Z", .methodLink RX4 47 yX4_isSet, .static yX4_isSet, .initialized RX4, .code yX4_isSet cX4_isSet 1 (some .boolean), .methodLink RX4 23 yX4_isIn, .static yX4_isIn, .code yX4_isIn cX4_isIn 3 (some .boolean), .methodLink RX4 51 yX4_no, .instanceMethod yX4_no, .selects RX4 yX4_no yX4_no, .code yX4_no cX4_no 2 (some .int), .methodLink RX4 91 yX4_begin, .static yX4_begin, .code yX4_begin cX4_begin 4 (some .int), .methodLink RX4 27 yX4_first, .static yX4_first, .code yX4_first cX4_first 4 (some .int), .methodLink RX4 95 yX4_spanNow, .static yX4_spanNow, .code yX4_spanNow cX4_spanNow 3 (some .int)] ++ wsX40)
def wsX4_has : List Cond := .code yX4_has cX4_has 3 (some .boolean) :: ([.fieldLink RX4 19 "PuddingstoneLineModel" "thrown" "I", .fieldLink RX4 11 "PuddingstoneLineModel" "sets" "[[Z", .methodLink RX4 47 yX4_isSet, .static yX4_isSet, .initialized RX4, .code yX4_isSet cX4_isSet 1 (some .boolean), .methodLink RX4 23 yX4_isIn, .static yX4_isIn, .code yX4_isIn cX4_isIn 3 (some .boolean)] ++ wsX40)
def wsX4_far : List Cond := .code yX4_far cX4_far 4 (some .int) :: ([.fieldLink RX4 19 "PuddingstoneLineModel" "thrown" "I", .fieldLink RX4 11 "PuddingstoneLineModel" "sets" "[[Z", .methodLink RX4 47 yX4_isSet, .static yX4_isSet, .initialized RX4, .code yX4_isSet cX4_isSet 1 (some .boolean), .methodLink RX4 23 yX4_isIn, .static yX4_isIn, .code yX4_isIn cX4_isIn 3 (some .boolean), .methodLink RX4 51 yX4_no, .instanceMethod yX4_no, .selects RX4 yX4_no yX4_no, .code yX4_no cX4_no 2 (some .int), .methodLink RX4 44 yX4_isAt, .static yX4_isAt, .code yX4_isAt cX4_isAt 2 (some .boolean)] ++ wsX40)
def wsX4_beside : List Cond := .code yX4_beside cX4_beside 6 (some .int) :: ([.fieldLink RX4 19 "PuddingstoneLineModel" "thrown" "I", .fieldLink RX4 11 "PuddingstoneLineModel" "sets" "[[Z", .methodLink RX4 47 yX4_isSet, .static yX4_isSet, .initialized RX4, .code yX4_isSet cX4_isSet 1 (some .boolean), .methodLink RX4 23 yX4_isIn, .static yX4_isIn, .code yX4_isIn cX4_isIn 3 (some .boolean), .methodLink RX4 51 yX4_no, .instanceMethod yX4_no, .selects RX4 yX4_no yX4_no, .code yX4_no cX4_no 2 (some .int), .methodLink RX4 62 yX4_count, .static yX4_count, .code yX4_count cX4_count 6 (some .int)] ++ wsX40)
def wsX4_kept : List Cond := .code yX4_kept cX4_kept 1 (some .int) :: ([.methodLink RX4 99 Lib.Math.min.name, .static Lib.Math.min.name, .initialized "java/lang/Math", .code Lib.Math.min.name Lib.Math.min.code 2 (some .int), .methodLink RX4 35 Lib.Math.max.name, .static Lib.Math.max.name, .code Lib.Math.max.name Lib.Math.max.code 2 (some .int)])
def wsX4_steps : List Cond := .code yX4_steps cX4_steps 3 (some .int) :: ([])
def wsX4_raise_r1 : List Cond := [Cond.fieldLink RX4 19 "PuddingstoneLineModel" "thrown" "I", Cond.fieldLink RX4 16 "PuddingstoneLineModel" "values" "[[I", Cond.methodLink RX4 102 yX4_isFunction, Cond.static yX4_isFunction, Cond.initialized RX4, Cond.code yX4_isFunction cX4_isFunction 1 (some .boolean), Cond.methodLink RX4 23 yX4_isIn, Cond.static yX4_isIn, Cond.code yX4_isIn cX4_isIn 3 (some .boolean), Cond.methodLink RX4 51 yX4_no, Cond.instanceMethod yX4_no, Cond.selects RX4 yX4_no yX4_no, Cond.code yX4_no cX4_no 2 (some .int), Cond.methodLink RX4 55 yX4_isSpan, Cond.static yX4_isSpan, Cond.code yX4_isSpan cX4_isSpan 3 (some .boolean), Cond.methodLink RX4 58 yX4_isWithin, Cond.static yX4_isWithin, Cond.code yX4_isWithin cX4_isWithin 6 (some .boolean), Cond.methodLink RX4 105 yX4_kept, Cond.static yX4_kept, Cond.code yX4_kept cX4_kept 1 (some .int), Cond.methodLink RX4 99 Lib.Math.min.name, Cond.static Lib.Math.min.name]
def wsX4_raise_r2 : List Cond := [Cond.initialized "java/lang/Math", Cond.code Lib.Math.min.name Lib.Math.min.code 2 (some .int), Cond.methodLink RX4 35 Lib.Math.max.name, Cond.static Lib.Math.max.name, Cond.code Lib.Math.max.name Lib.Math.max.code 2 (some .int), Cond.methodLink RX4 108 yX4_steps, Cond.static yX4_steps, Cond.code yX4_steps cX4_steps 3 (some .int)]
def wsX4_raise : List Cond := .code yX4_raise cX4_raise 8 (some .int) :: ((wsX4_raise_r1 ++ wsX4_raise_r2) ++ wsX40)
def wsX4_set : List Cond := .code yX4_set cX4_set 5 (some .int) :: ([.fieldLink RX4 19 "PuddingstoneLineModel" "thrown" "I", .fieldLink RX4 11 "PuddingstoneLineModel" "sets" "[[Z", .fieldLink RX4 16 "PuddingstoneLineModel" "values" "[[I", .methodLink RX4 102 yX4_isFunction, .static yX4_isFunction, .initialized RX4, .code yX4_isFunction cX4_isFunction 1 (some .boolean), .methodLink RX4 23 yX4_isIn, .static yX4_isIn, .code yX4_isIn cX4_isIn 3 (some .boolean), .methodLink RX4 47 yX4_isSet, .static yX4_isSet, .code yX4_isSet cX4_isSet 1 (some .boolean), .methodLink RX4 51 yX4_no, .instanceMethod yX4_no, .selects RX4 yX4_no yX4_no, .code yX4_no cX4_no 2 (some .int), .methodLink RX4 108 yX4_steps, .static yX4_steps, .code yX4_steps cX4_steps 3 (some .int)] ++ wsX40)
def wsX4_mixed : List Cond := .code yX4_mixed cX4_mixed 3 (some .int) :: ([.methodLink RX4 99 Lib.Math.min.name, .static Lib.Math.min.name, .initialized "java/lang/Math", .code Lib.Math.min.name Lib.Math.min.code 2 (some .int), .methodLink RX4 35 Lib.Math.max.name, .static Lib.Math.max.name, .code Lib.Math.max.name Lib.Math.max.code 2 (some .int)])
def wsX4_mix_r1 : List Cond := [Cond.fieldLink RX4 19 "PuddingstoneLineModel" "thrown" "I", Cond.arrayClass .int, Cond.fieldLink RX4 16 "PuddingstoneLineModel" "values" "[[I", Cond.methodLink RX4 102 yX4_isFunction, Cond.static yX4_isFunction, Cond.initialized RX4, Cond.code yX4_isFunction cX4_isFunction 1 (some .boolean), Cond.methodLink RX4 23 yX4_isIn, Cond.static yX4_isIn, Cond.code yX4_isIn cX4_isIn 3 (some .boolean), Cond.methodLink RX4 51 yX4_no, Cond.instanceMethod yX4_no, Cond.selects RX4 yX4_no yX4_no, Cond.code yX4_no cX4_no 2 (some .int), Cond.methodLink RX4 112 yX4_mixed, Cond.static yX4_mixed, Cond.code yX4_mixed cX4_mixed 3 (some .int), Cond.methodLink RX4 99 Lib.Math.min.name, Cond.static Lib.Math.min.name, Cond.initialized "java/lang/Math", Cond.code Lib.Math.min.name Lib.Math.min.code 2 (some .int), Cond.methodLink RX4 35 Lib.Math.max.name, Cond.static Lib.Math.max.name, Cond.code Lib.Math.max.name Lib.Math.max.code 2 (some .int)]
def wsX4_mix_r2 : List Cond := [Cond.methodLink RX4 105 yX4_kept, Cond.static yX4_kept, Cond.code yX4_kept cX4_kept 1 (some .int), Cond.methodLink RX4 108 yX4_steps, Cond.static yX4_steps, Cond.code yX4_steps cX4_steps 3 (some .int)]
def wsX4_mix : List Cond := .code yX4_mix cX4_mix 7 (some .int) :: ((wsX4_mix_r1 ++ wsX4_mix_r2) ++ wsX40)
def wsX4_most : List Cond := .code yX4_most cX4_most 5 (some .int) :: ([.methodLink RX4 35 Lib.Math.max.name, .static Lib.Math.max.name, .initialized "java/lang/Math", .code Lib.Math.max.name Lib.Math.max.code 2 (some .int)])
def wsX4_negated : List Cond := .code yX4_negated cX4_negated 3 (some (.array .int)) :: ([.arrayClass .int])
def wsX4_sumTo : List Cond := .code yX4_sumTo cX4_sumTo 4 (some .int) :: ([.methodLink RX4 105 yX4_kept, .static yX4_kept, .initialized RX4, .code yX4_kept cX4_kept 1 (some .int), .methodLink RX4 99 Lib.Math.min.name, .static Lib.Math.min.name, .initialized "java/lang/Math", .code Lib.Math.min.name Lib.Math.min.code 2 (some .int), .methodLink RX4 35 Lib.Math.max.name, .static Lib.Math.max.name, .code Lib.Math.max.name Lib.Math.max.code 2 (some .int)])
def wsX4_turn_r1 : List Cond := [Cond.fieldLink RX4 19 "PuddingstoneLineModel" "thrown" "I", Cond.fieldLink RX4 16 "PuddingstoneLineModel" "values" "[[I", Cond.arrayClass .int, Cond.methodLink RX4 102 yX4_isFunction, Cond.static yX4_isFunction, Cond.initialized RX4, Cond.code yX4_isFunction cX4_isFunction 1 (some .boolean), Cond.methodLink RX4 23 yX4_isIn, Cond.static yX4_isIn, Cond.code yX4_isIn cX4_isIn 3 (some .boolean), Cond.methodLink RX4 51 yX4_no, Cond.instanceMethod yX4_no, Cond.selects RX4 yX4_no yX4_no, Cond.code yX4_no cX4_no 2 (some .int), Cond.methodLink RX4 115 yX4_negated, Cond.static yX4_negated, Cond.code yX4_negated cX4_negated 3 (some (.array .int)), Cond.methodLink RX4 119 yX4_most, Cond.static yX4_most, Cond.code yX4_most cX4_most 5 (some .int), Cond.methodLink RX4 35 Lib.Math.max.name, Cond.static Lib.Math.max.name, Cond.initialized "java/lang/Math", Cond.code Lib.Math.max.name Lib.Math.max.code 2 (some .int)]
def wsX4_turn_r2 : List Cond := [Cond.methodLink RX4 123 yX4_sumTo, Cond.static yX4_sumTo, Cond.code yX4_sumTo cX4_sumTo 4 (some .int), Cond.methodLink RX4 105 yX4_kept, Cond.static yX4_kept, Cond.code yX4_kept cX4_kept 1 (some .int), Cond.methodLink RX4 99 Lib.Math.min.name, Cond.static Lib.Math.min.name, Cond.code Lib.Math.min.name Lib.Math.min.code 2 (some .int), Cond.methodLink RX4 108 yX4_steps, Cond.static yX4_steps, Cond.code yX4_steps cX4_steps 3 (some .int)]
def wsX4_turn : List Cond := .code yX4_turn cX4_turn 8 (some .int) :: ((wsX4_turn_r1 ++ wsX4_turn_r2) ++ wsX40)
def wsX4_thickness : List Cond := .code yX4_thickness cX4_thickness 5 (some .int) :: ([.fieldLink RX4 11 "PuddingstoneLineModel" "sets" "[[Z"] ++ wsX40)
def wsX4_thick : List Cond := .code yX4_thick cX4_thick 4 (some .int) :: ([.fieldLink RX4 19 "PuddingstoneLineModel" "thrown" "I", .fieldLink RX4 16 "PuddingstoneLineModel" "values" "[[I", .methodLink RX4 102 yX4_isFunction, .static yX4_isFunction, .initialized RX4, .code yX4_isFunction cX4_isFunction 1 (some .boolean), .methodLink RX4 23 yX4_isIn, .static yX4_isIn, .code yX4_isIn cX4_isIn 3 (some .boolean), .methodLink RX4 51 yX4_no, .instanceMethod yX4_no, .selects RX4 yX4_no yX4_no, .code yX4_no cX4_no 2 (some .int), .methodLink RX4 127 yX4_thickness, .instanceMethod yX4_thickness, .selects RX4 yX4_thickness yX4_thickness, .code yX4_thickness cX4_thickness 5 (some .int), .fieldLink RX4 11 "PuddingstoneLineModel" "sets" "[[Z", .methodLink RX4 108 yX4_steps, .static yX4_steps, .code yX4_steps cX4_steps 3 (some .int)] ++ wsX40)
def wsX4_where : List Cond := .code yX4_where cX4_where 6 (some .int) :: ([.fieldLink RX4 19 "PuddingstoneLineModel" "thrown" "I", .fieldLink RX4 11 "PuddingstoneLineModel" "sets" "[[Z", .fieldLink RX4 16 "PuddingstoneLineModel" "values" "[[I", .methodLink RX4 47 yX4_isSet, .static yX4_isSet, .initialized RX4, .code yX4_isSet cX4_isSet 1 (some .boolean), .methodLink RX4 23 yX4_isIn, .static yX4_isIn, .code yX4_isIn cX4_isIn 3 (some .boolean), .methodLink RX4 102 yX4_isFunction, .static yX4_isFunction, .code yX4_isFunction cX4_isFunction 1 (some .boolean), .methodLink RX4 51 yX4_no, .instanceMethod yX4_no, .selects RX4 yX4_no yX4_no, .code yX4_no cX4_no 2 (some .int), .methodLink RX4 62 yX4_count, .static yX4_count, .code yX4_count cX4_count 6 (some .int)] ++ wsX40)
def wsX4_areaOf : List Cond := .code yX4_areaOf cX4_areaOf 5 (some .int) :: ([])
def wsX4_functionNow : List Cond := .code yX4_functionNow cX4_functionNow 5 (some .int) :: ([.fieldLink RX4 16 "PuddingstoneLineModel" "values" "[[I", .methodLink RX4 108 yX4_steps, .static yX4_steps, .initialized RX4, .code yX4_steps cX4_steps 3 (some .int), .methodLink RX4 115 yX4_negated, .static yX4_negated, .code yX4_negated cX4_negated 3 (some (.array .int)), .arrayClass .int, .methodLink RX4 119 yX4_most, .static yX4_most, .code yX4_most cX4_most 5 (some .int), .methodLink RX4 35 Lib.Math.max.name, .static Lib.Math.max.name, .initialized "java/lang/Math", .code Lib.Math.max.name Lib.Math.max.code 2 (some .int), .methodLink RX4 130 yX4_areaOf, .static yX4_areaOf, .code yX4_areaOf cX4_areaOf 5 (some .int)] ++ wsX40)
def wsX4_ofFunction_r1 : List Cond := [Cond.fieldLink RX4 19 "PuddingstoneLineModel" "thrown" "I", Cond.methodLink RX4 102 yX4_isFunction, Cond.static yX4_isFunction, Cond.initialized RX4, Cond.code yX4_isFunction cX4_isFunction 1 (some .boolean), Cond.methodLink RX4 23 yX4_isIn, Cond.static yX4_isIn, Cond.code yX4_isIn cX4_isIn 3 (some .boolean), Cond.methodLink RX4 51 yX4_no, Cond.instanceMethod yX4_no, Cond.selects RX4 yX4_no yX4_no, Cond.code yX4_no cX4_no 2 (some .int), Cond.methodLink RX4 133 yX4_functionNow, Cond.instanceMethod yX4_functionNow, Cond.selects RX4 yX4_functionNow yX4_functionNow, Cond.code yX4_functionNow cX4_functionNow 5 (some .int), Cond.fieldLink RX4 16 "PuddingstoneLineModel" "values" "[[I", Cond.methodLink RX4 108 yX4_steps, Cond.static yX4_steps, Cond.code yX4_steps cX4_steps 3 (some .int), Cond.methodLink RX4 115 yX4_negated, Cond.static yX4_negated, Cond.code yX4_negated cX4_negated 3 (some (.array .int)), Cond.arrayClass .int]
def wsX4_ofFunction_r2 : List Cond := [Cond.methodLink RX4 119 yX4_most, Cond.static yX4_most, Cond.code yX4_most cX4_most 5 (some .int), Cond.methodLink RX4 35 Lib.Math.max.name, Cond.static Lib.Math.max.name, Cond.initialized "java/lang/Math", Cond.code Lib.Math.max.name Lib.Math.max.code 2 (some .int), Cond.methodLink RX4 130 yX4_areaOf, Cond.static yX4_areaOf, Cond.code yX4_areaOf cX4_areaOf 5 (some .int)]
def wsX4_ofFunction : List Cond := .code yX4_ofFunction cX4_ofFunction 3 (some .int) :: ((wsX4_ofFunction_r1 ++ wsX4_ofFunction_r2) ++ wsX40)
def wsX4_value : List Cond := .code yX4_value cX4_value 3 (some .int) :: ([.fieldLink RX4 19 "PuddingstoneLineModel" "thrown" "I", .fieldLink RX4 16 "PuddingstoneLineModel" "values" "[[I", .methodLink RX4 102 yX4_isFunction, .static yX4_isFunction, .initialized RX4, .code yX4_isFunction cX4_isFunction 1 (some .boolean), .methodLink RX4 23 yX4_isIn, .static yX4_isIn, .code yX4_isIn cX4_isIn 3 (some .boolean), .methodLink RX4 51 yX4_no, .instanceMethod yX4_no, .selects RX4 yX4_no yX4_no, .code yX4_no cX4_no 2 (some .int)] ++ wsX40)
def wsX4_areaNow : List Cond := .code yX4_areaNow cX4_areaNow 5 (some .int) :: ([.fieldLink RX4 11 "PuddingstoneLineModel" "sets" "[[Z", .fieldLink RX4 16 "PuddingstoneLineModel" "values" "[[I"] ++ wsX40)
def wsX4_area : List Cond := .code yX4_area cX4_area 3 (some .int) :: ([.fieldLink RX4 19 "PuddingstoneLineModel" "thrown" "I", .methodLink RX4 102 yX4_isFunction, .static yX4_isFunction, .initialized RX4, .code yX4_isFunction cX4_isFunction 1 (some .boolean), .methodLink RX4 23 yX4_isIn, .static yX4_isIn, .code yX4_isIn cX4_isIn 3 (some .boolean), .methodLink RX4 47 yX4_isSet, .static yX4_isSet, .code yX4_isSet cX4_isSet 1 (some .boolean), .methodLink RX4 136 yX4_areaNow, .instanceMethod yX4_areaNow, .selects RX4 yX4_areaNow yX4_areaNow, .code yX4_areaNow cX4_areaNow 5 (some .int), .fieldLink RX4 11 "PuddingstoneLineModel" "sets" "[[Z", .fieldLink RX4 16 "PuddingstoneLineModel" "values" "[[I", .methodLink RX4 51 yX4_no, .instanceMethod yX4_no, .selects RX4 yX4_no yX4_no, .code yX4_no cX4_no 2 (some .int)] ++ wsX40)
def wsX4_mean : List Cond := .code yX4_mean cX4_mean 3 (some .double) :: ([.fieldLink RX4 19 "PuddingstoneLineModel" "thrown" "I", .fieldLink RX4 11 "PuddingstoneLineModel" "sets" "[[Z", .methodLink RX4 102 yX4_isFunction, .static yX4_isFunction, .initialized RX4, .code yX4_isFunction cX4_isFunction 1 (some .boolean), .methodLink RX4 23 yX4_isIn, .static yX4_isIn, .code yX4_isIn cX4_isIn 3 (some .boolean), .methodLink RX4 47 yX4_isSet, .static yX4_isSet, .code yX4_isSet cX4_isSet 1 (some .boolean), .methodLink RX4 79 yX4_longOf_, .static yX4_longOf_, .code yX4_longOf_ cX4_longOf_ 3 (some .int), .methodLink RX4 136 yX4_areaNow, .instanceMethod yX4_areaNow, .selects RX4 yX4_areaNow yX4_areaNow, .code yX4_areaNow cX4_areaNow 5 (some .int), .fieldLink RX4 16 "PuddingstoneLineModel" "values" "[[I"] ++ wsX40)
def wsX4_thickerNow : List Cond := .code yX4_thickerNow cX4_thickerNow 5 (some .int) :: ([.methodLink RX4 127 yX4_thickness, .instanceMethod yX4_thickness, .selects RX4 yX4_thickness yX4_thickness, .initialized RX4, .code yX4_thickness cX4_thickness 5 (some .int), .fieldLink RX4 11 "PuddingstoneLineModel" "sets" "[[Z"] ++ wsX40)
def wsX4_thicker : List Cond := .code yX4_thicker cX4_thicker 3 (some .int) :: ([.fieldLink RX4 19 "PuddingstoneLineModel" "thrown" "I", .methodLink RX4 23 yX4_isIn, .static yX4_isIn, .initialized RX4, .code yX4_isIn cX4_isIn 3 (some .boolean), .methodLink RX4 139 yX4_thickerNow, .instanceMethod yX4_thickerNow, .selects RX4 yX4_thickerNow yX4_thickerNow, .code yX4_thickerNow cX4_thickerNow 5 (some .int), .methodLink RX4 127 yX4_thickness, .instanceMethod yX4_thickness, .selects RX4 yX4_thickness yX4_thickness, .code yX4_thickness cX4_thickness 5 (some .int), .fieldLink RX4 11 "PuddingstoneLineModel" "sets" "[[Z", .methodLink RX4 51 yX4_no, .instanceMethod yX4_no, .selects RX4 yX4_no yX4_no, .code yX4_no cX4_no 2 (some .int)] ++ wsX40)
def wsX4_coverNow : List Cond := .code yX4_coverNow cX4_coverNow 11 (some (.array .int)) :: ([.arrayClass .int, .fieldLink RX4 11 "PuddingstoneLineModel" "sets" "[[Z", .methodLink RX4 142 arraycopyName, .native arraycopyName, .static arraycopyName, .initialized "java/lang/System", .methodLink RX4 27 yX4_first, .static yX4_first, .initialized RX4, .code yX4_first cX4_first 4 (some .int)] ++ wsX40)
def wsX4_size : List Cond := .code yX4_size cX4_size 1 (some .int) :: ([])
def wsX4_cover_r1 : List Cond := [Cond.fieldLink RX4 19 "PuddingstoneLineModel" "thrown" "I", Cond.methodLink RX4 47 yX4_isSet, Cond.static yX4_isSet, Cond.initialized RX4, Cond.code yX4_isSet cX4_isSet 1 (some .boolean), Cond.methodLink RX4 23 yX4_isIn, Cond.static yX4_isIn, Cond.code yX4_isIn cX4_isIn 3 (some .boolean), Cond.methodLink RX4 51 yX4_no, Cond.instanceMethod yX4_no, Cond.selects RX4 yX4_no yX4_no, Cond.code yX4_no cX4_no 2 (some .int), Cond.methodLink RX4 148 yX4_coverNow, Cond.instanceMethod yX4_coverNow, Cond.selects RX4 yX4_coverNow yX4_coverNow, Cond.code yX4_coverNow cX4_coverNow 11 (some (.array .int)), Cond.arrayClass .int, Cond.fieldLink RX4 11 "PuddingstoneLineModel" "sets" "[[Z", Cond.methodLink RX4 142 arraycopyName, Cond.native arraycopyName, Cond.static arraycopyName, Cond.initialized "java/lang/System", Cond.methodLink RX4 27 yX4_first, Cond.static yX4_first]
def wsX4_cover_r2 : List Cond := [Cond.code yX4_first cX4_first 4 (some .int), Cond.methodLink RX4 152 yX4_size, Cond.static yX4_size, Cond.code yX4_size cX4_size 1 (some .int)]
def wsX4_cover : List Cond := .code yX4_cover cX4_cover 3 (some .int) :: ((wsX4_cover_r1 ++ wsX4_cover_r2) ++ wsX40)
def wsX4_covers_r1 : List Cond := [Cond.fieldLink RX4 19 "PuddingstoneLineModel" "thrown" "I", Cond.methodLink RX4 47 yX4_isSet, Cond.static yX4_isSet, Cond.initialized RX4, Cond.code yX4_isSet cX4_isSet 1 (some .boolean), Cond.methodLink RX4 23 yX4_isIn, Cond.static yX4_isIn, Cond.code yX4_isIn cX4_isIn 3 (some .boolean), Cond.methodLink RX4 51 yX4_no, Cond.instanceMethod yX4_no, Cond.selects RX4 yX4_no yX4_no, Cond.code yX4_no cX4_no 2 (some .int), Cond.methodLink RX4 148 yX4_coverNow, Cond.instanceMethod yX4_coverNow, Cond.selects RX4 yX4_coverNow yX4_coverNow, Cond.code yX4_coverNow cX4_coverNow 11 (some (.array .int)), Cond.arrayClass .int, Cond.fieldLink RX4 11 "PuddingstoneLineModel" "sets" "[[Z", Cond.methodLink RX4 142 arraycopyName, Cond.native arraycopyName, Cond.static arraycopyName, Cond.initialized "java/lang/System", Cond.methodLink RX4 27 yX4_first, Cond.static yX4_first]
def wsX4_covers_r2 : List Cond := [Cond.code yX4_first cX4_first 4 (some .int), Cond.methodLink RX4 152 yX4_size, Cond.static yX4_size, Cond.code yX4_size cX4_size 1 (some .int)]
def wsX4_covers : List Cond := .code yX4_covers cX4_covers 5 (some .int) :: ((wsX4_covers_r1 ++ wsX4_covers_r2) ++ wsX40)
def wsX4_beginOf : List Cond := .code yX4_beginOf cX4_beginOf 4 (some .int) :: ([.fieldLink RX4 11 "PuddingstoneLineModel" "sets" "[[Z", .methodLink RX4 44 yX4_isAt, .static yX4_isAt, .initialized RX4, .code yX4_isAt cX4_isAt 2 (some .boolean)] ++ wsX40)
def wsX4_pinsNow : List Cond := .code yX4_pinsNow cX4_pinsNow 7 (some .int) :: ([.fieldLink RX4 11 "PuddingstoneLineModel" "sets" "[[Z", .methodLink RX4 44 yX4_isAt, .static yX4_isAt, .initialized RX4, .code yX4_isAt cX4_isAt 2 (some .boolean), .methodLink RX4 155 yX4_beginOf, .instanceMethod yX4_beginOf, .selects RX4 yX4_beginOf yX4_beginOf, .code yX4_beginOf cX4_beginOf 4 (some .int)] ++ wsX40)
def wsX4_apart : List Cond := .code yX4_apart cX4_apart 2 (some .int) :: ([.fieldLink RX4 19 "PuddingstoneLineModel" "thrown" "I", .methodLink RX4 23 yX4_isIn, .static yX4_isIn, .initialized RX4, .code yX4_isIn cX4_isIn 3 (some .boolean), .methodLink RX4 158 yX4_pinsNow, .instanceMethod yX4_pinsNow, .selects RX4 yX4_pinsNow yX4_pinsNow, .code yX4_pinsNow cX4_pinsNow 7 (some .int), .fieldLink RX4 11 "PuddingstoneLineModel" "sets" "[[Z", .methodLink RX4 44 yX4_isAt, .static yX4_isAt, .code yX4_isAt cX4_isAt 2 (some .boolean), .methodLink RX4 155 yX4_beginOf, .instanceMethod yX4_beginOf, .selects RX4 yX4_beginOf yX4_beginOf, .code yX4_beginOf cX4_beginOf 4 (some .int), .methodLink RX4 51 yX4_no, .instanceMethod yX4_no, .selects RX4 yX4_no yX4_no, .code yX4_no cX4_no 2 (some .int)] ++ wsX40)
def wsX4_pins : List Cond := .code yX4_pins cX4_pins 2 (some .int) :: ([.fieldLink RX4 19 "PuddingstoneLineModel" "thrown" "I", .methodLink RX4 23 yX4_isIn, .static yX4_isIn, .initialized RX4, .code yX4_isIn cX4_isIn 3 (some .boolean), .methodLink RX4 158 yX4_pinsNow, .instanceMethod yX4_pinsNow, .selects RX4 yX4_pinsNow yX4_pinsNow, .code yX4_pinsNow cX4_pinsNow 7 (some .int), .fieldLink RX4 11 "PuddingstoneLineModel" "sets" "[[Z", .methodLink RX4 44 yX4_isAt, .static yX4_isAt, .code yX4_isAt cX4_isAt 2 (some .boolean), .methodLink RX4 155 yX4_beginOf, .instanceMethod yX4_beginOf, .selects RX4 yX4_beginOf yX4_beginOf, .code yX4_beginOf cX4_beginOf 4 (some .int), .methodLink RX4 51 yX4_no, .instanceMethod yX4_no, .selects RX4 yX4_no yX4_no, .code yX4_no cX4_no 2 (some .int)] ++ wsX40)
def wsX4_both : List Cond := .code yX4_both cX4_both 4 (some (.array .boolean)) :: ([.arrayClass .boolean])
def wsX4_meetWith_r1 : List Cond := [Cond.fieldLink RX4 19 "PuddingstoneLineModel" "thrown" "I", Cond.fieldLink RX4 11 "PuddingstoneLineModel" "sets" "[[Z", Cond.methodLink RX4 47 yX4_isSet, Cond.static yX4_isSet, Cond.initialized RX4, Cond.code yX4_isSet cX4_isSet 1 (some .boolean), Cond.methodLink RX4 23 yX4_isIn, Cond.static yX4_isIn, Cond.code yX4_isIn cX4_isIn 3 (some .boolean), Cond.methodLink RX4 51 yX4_no, Cond.instanceMethod yX4_no, Cond.selects RX4 yX4_no yX4_no, Cond.code yX4_no cX4_no 2 (some .int), Cond.methodLink RX4 73 yX4_moved, Cond.static yX4_moved, Cond.code yX4_moved cX4_moved 4 (some (.array .boolean)), Cond.arrayClass .boolean, Cond.methodLink RX4 44 yX4_isAt, Cond.static yX4_isAt, Cond.code yX4_isAt cX4_isAt 2 (some .boolean), Cond.methodLink RX4 161 yX4_both, Cond.static yX4_both, Cond.code yX4_both cX4_both 4 (some (.array .boolean)), Cond.methodLink RX4 79 yX4_longOf_]
def wsX4_meetWith_r2 : List Cond := [Cond.static yX4_longOf_, Cond.code yX4_longOf_ cX4_longOf_ 3 (some .int)]
def wsX4_meetWith : List Cond := .code yX4_meetWith cX4_meetWith 4 (some .int) :: ((wsX4_meetWith_r1 ++ wsX4_meetWith_r2) ++ wsX40)
def wsX4_isClear : List Cond := .code yX4_isClear cX4_isClear 5 (some .boolean) :: ([.fieldLink RX4 11 "PuddingstoneLineModel" "sets" "[[Z", .methodLink RX4 73 yX4_moved, .static yX4_moved, .initialized RX4, .code yX4_moved cX4_moved 4 (some (.array .boolean)), .arrayClass .boolean, .methodLink RX4 44 yX4_isAt, .static yX4_isAt, .code yX4_isAt cX4_isAt 2 (some .boolean), .methodLink RX4 62 yX4_count, .static yX4_count, .code yX4_count cX4_count 6 (some .int), .methodLink RX4 161 yX4_both, .static yX4_both, .code yX4_both cX4_both 4 (some (.array .boolean))] ++ wsX40)
def wsX4_clear_r1 : List Cond := [Cond.fieldLink RX4 19 "PuddingstoneLineModel" "thrown" "I", Cond.methodLink RX4 47 yX4_isSet, Cond.static yX4_isSet, Cond.initialized RX4, Cond.code yX4_isSet cX4_isSet 1 (some .boolean), Cond.methodLink RX4 23 yX4_isIn, Cond.static yX4_isIn, Cond.code yX4_isIn cX4_isIn 3 (some .boolean), Cond.methodLink RX4 51 yX4_no, Cond.instanceMethod yX4_no, Cond.selects RX4 yX4_no yX4_no, Cond.code yX4_no cX4_no 2 (some .int), Cond.methodLink RX4 165 yX4_isClear, Cond.instanceMethod yX4_isClear, Cond.selects RX4 yX4_isClear yX4_isClear, Cond.code yX4_isClear cX4_isClear 5 (some .boolean), Cond.fieldLink RX4 11 "PuddingstoneLineModel" "sets" "[[Z", Cond.methodLink RX4 73 yX4_moved, Cond.static yX4_moved, Cond.code yX4_moved cX4_moved 4 (some (.array .boolean)), Cond.arrayClass .boolean, Cond.methodLink RX4 44 yX4_isAt, Cond.static yX4_isAt, Cond.code yX4_isAt cX4_isAt 2 (some .boolean)]
def wsX4_clear_r2 : List Cond := [Cond.methodLink RX4 62 yX4_count, Cond.static yX4_count, Cond.code yX4_count cX4_count 6 (some .int), Cond.methodLink RX4 161 yX4_both, Cond.static yX4_both, Cond.code yX4_both cX4_both 4 (some (.array .boolean))]
def wsX4_clear : List Cond := .code yX4_clear cX4_clear 4 (some .int) :: ((wsX4_clear_r1 ++ wsX4_clear_r2) ++ wsX40)
def wsX4_best : List Cond := .code yX4_best cX4_best 5 (some .int) :: ([.fieldLink RX4 19 "PuddingstoneLineModel" "thrown" "I", .fieldLink RX4 16 "PuddingstoneLineModel" "values" "[[I", .methodLink RX4 102 yX4_isFunction, .static yX4_isFunction, .initialized RX4, .code yX4_isFunction cX4_isFunction 1 (some .boolean), .methodLink RX4 23 yX4_isIn, .static yX4_isIn, .code yX4_isIn cX4_isIn 3 (some .boolean), .methodLink RX4 51 yX4_no, .instanceMethod yX4_no, .selects RX4 yX4_no yX4_no, .code yX4_no cX4_no 2 (some .int), .methodLink RX4 130 yX4_areaOf, .static yX4_areaOf, .code yX4_areaOf cX4_areaOf 5 (some .int)] ++ wsX40)
def wsX4_saves_r1 : List Cond := [Cond.fieldLink RX4 19 "PuddingstoneLineModel" "thrown" "I", Cond.methodLink RX4 47 yX4_isSet, Cond.static yX4_isSet, Cond.initialized RX4, Cond.code yX4_isSet cX4_isSet 1 (some .boolean), Cond.methodLink RX4 23 yX4_isIn, Cond.static yX4_isIn, Cond.code yX4_isIn cX4_isIn 3 (some .boolean), Cond.methodLink RX4 51 yX4_no, Cond.instanceMethod yX4_no, Cond.selects RX4 yX4_no yX4_no, Cond.code yX4_no cX4_no 2 (some .int), Cond.methodLink RX4 148 yX4_coverNow, Cond.instanceMethod yX4_coverNow, Cond.selects RX4 yX4_coverNow yX4_coverNow, Cond.code yX4_coverNow cX4_coverNow 11 (some (.array .int)), Cond.arrayClass .int, Cond.fieldLink RX4 11 "PuddingstoneLineModel" "sets" "[[Z", Cond.methodLink RX4 142 arraycopyName, Cond.native arraycopyName, Cond.static arraycopyName, Cond.initialized "java/lang/System", Cond.methodLink RX4 27 yX4_first, Cond.static yX4_first]
def wsX4_saves_r2 : List Cond := [Cond.code yX4_first cX4_first 4 (some .int), Cond.methodLink RX4 152 yX4_size, Cond.static yX4_size, Cond.code yX4_size cX4_size 1 (some .int)]
def wsX4_saves : List Cond := .code yX4_saves cX4_saves 6 (some .int) :: ((wsX4_saves_r1 ++ wsX4_saves_r2) ++ wsX40)
def wsX4_digest_r1 : List Cond := [Cond.fieldLink RX4 19 "PuddingstoneLineModel" "thrown" "I", Cond.constantLong RX4 168 (965), Cond.constantLong RX4 170 (31), Cond.fieldLink RX4 11 "PuddingstoneLineModel" "sets" "[[Z", Cond.fieldLink RX4 16 "PuddingstoneLineModel" "values" "[[I", Cond.methodLink RX4 88 yX4_ofNow, Cond.instanceMethod yX4_ofNow, Cond.selects RX4 yX4_ofNow yX4_ofNow, Cond.initialized RX4, Cond.code yX4_ofNow cX4_ofNow 4 (some .int), Cond.methodLink RX4 62 yX4_count, Cond.static yX4_count, Cond.code yX4_count cX4_count 6 (some .int), Cond.methodLink RX4 76 yX4_spans, Cond.static yX4_spans, Cond.code yX4_spans cX4_spans 3 (some .int), Cond.methodLink RX4 27 yX4_first, Cond.static yX4_first, Cond.code yX4_first cX4_first 4 (some .int), Cond.methodLink RX4 79 yX4_longOf_, Cond.static yX4_longOf_, Cond.code yX4_longOf_ cX4_longOf_ 3 (some .int), Cond.methodLink RX4 81 yX4_alone, Cond.static yX4_alone]
def wsX4_digest_r2 : List Cond := [Cond.code yX4_alone cX4_alone 3 (some .int), Cond.methodLink RX4 40 yX4_isAlone, Cond.static yX4_isAlone, Cond.code yX4_isAlone cX4_isAlone 2 (some .boolean), Cond.methodLink RX4 44 yX4_isAt, Cond.static yX4_isAt, Cond.code yX4_isAt cX4_isAt 2 (some .boolean), Cond.methodLink RX4 84 yX4_others, Cond.static yX4_others, Cond.code yX4_others cX4_others 3 (some (.array .boolean)), Cond.arrayClass .boolean, Cond.methodLink RX4 66 yX4_longest, Cond.static yX4_longest, Cond.code yX4_longest cX4_longest 3 (some .int), Cond.methodLink RX4 35 Lib.Math.max.name, Cond.static Lib.Math.max.name, Cond.initialized "java/lang/Math", Cond.code Lib.Math.max.name Lib.Math.max.code 2 (some .int), Cond.methodLink RX4 31 yX4_longOf, Cond.static yX4_longOf, Cond.code yX4_longOf cX4_longOf 2 (some .int), Cond.methodLink RX4 95 yX4_spanNow, Cond.static yX4_spanNow, Cond.code yX4_spanNow cX4_spanNow 3 (some .int)]
def wsX4_digest_r3 : List Cond := [Cond.methodLink RX4 133 yX4_functionNow, Cond.instanceMethod yX4_functionNow, Cond.selects RX4 yX4_functionNow yX4_functionNow, Cond.code yX4_functionNow cX4_functionNow 5 (some .int), Cond.methodLink RX4 108 yX4_steps, Cond.static yX4_steps, Cond.code yX4_steps cX4_steps 3 (some .int), Cond.methodLink RX4 115 yX4_negated, Cond.static yX4_negated, Cond.code yX4_negated cX4_negated 3 (some (.array .int)), Cond.arrayClass .int, Cond.methodLink RX4 119 yX4_most, Cond.static yX4_most, Cond.code yX4_most cX4_most 5 (some .int), Cond.methodLink RX4 130 yX4_areaOf, Cond.static yX4_areaOf, Cond.code yX4_areaOf cX4_areaOf 5 (some .int), Cond.methodLink RX4 139 yX4_thickerNow, Cond.instanceMethod yX4_thickerNow, Cond.selects RX4 yX4_thickerNow yX4_thickerNow, Cond.code yX4_thickerNow cX4_thickerNow 5 (some .int), Cond.methodLink RX4 127 yX4_thickness, Cond.instanceMethod yX4_thickness, Cond.selects RX4 yX4_thickness yX4_thickness]
def wsX4_digest_r4 : List Cond := [Cond.code yX4_thickness cX4_thickness 5 (some .int), Cond.methodLink RX4 158 yX4_pinsNow, Cond.instanceMethod yX4_pinsNow, Cond.selects RX4 yX4_pinsNow yX4_pinsNow, Cond.code yX4_pinsNow cX4_pinsNow 7 (some .int), Cond.methodLink RX4 155 yX4_beginOf, Cond.instanceMethod yX4_beginOf, Cond.selects RX4 yX4_beginOf yX4_beginOf, Cond.code yX4_beginOf cX4_beginOf 4 (some .int), Cond.methodLink RX4 148 yX4_coverNow, Cond.instanceMethod yX4_coverNow, Cond.selects RX4 yX4_coverNow yX4_coverNow, Cond.code yX4_coverNow cX4_coverNow 11 (some (.array .int)), Cond.methodLink RX4 142 arraycopyName, Cond.native arraycopyName, Cond.static arraycopyName, Cond.initialized "java/lang/System", Cond.methodLink RX4 152 yX4_size, Cond.static yX4_size, Cond.code yX4_size cX4_size 1 (some .int)]
def wsX4_digest : List Cond := .code yX4_digest cX4_digest 8 (some .long) :: ((wsX4_digest_r1 ++ (wsX4_digest_r2 ++ (wsX4_digest_r3 ++ wsX4_digest_r4))) ++ wsX40)
def wsJ9_max_7cf53 : List Cond := .code yJ9_max_7cf53 cJ9_max_7cf53 2 (some .int) :: ([])
def wsJ9_min_7cf53 : List Cond := .code yJ9_min_7cf53 cJ9_min_7cf53 2 (some .int) :: ([])
def wsL_span_r1 : List Cond := [Cond.classLink RL 13 "java/lang/IndexOutOfBoundsException", Cond.classLink RL 15 "java/lang/IllegalArgumentException", Cond.methodLink RL 7 yX3_span, Cond.instanceMethod yX3_span, Cond.selects RX3 yX3_span yX3_span, Cond.initialized RX3, Cond.code yX3_span cX3_span 7 (some .int), Cond.methodLink RX3 42 yX3_setAt, Cond.instanceMethod yX3_setAt, Cond.selects RX3 yX3_setAt yX3_setAt, Cond.code yX3_setAt cX3_setAt 3 (some (.object "PuddingstoneLine$GrainSet")), Cond.classLink RX3 115 "java/lang/IndexOutOfBoundsException", Cond.initialized "java/lang/IndexOutOfBoundsException", Cond.methodLink RX3 211 yX3_setOrNull, Cond.instanceMethod yX3_setOrNull, Cond.selects RX3 yX3_setOrNull yX3_setOrNull, Cond.code yX3_setOrNull cX3_setOrNull 2 (some (.object "PuddingstoneLine$GrainSet")), Cond.fieldLink RX3 11 "PuddingstoneLine" "sets" "[LPuddingstoneLine$GrainSet;", Cond.methodLink RX3 46 yX3_checkSpan, Cond.static yX3_checkSpan, Cond.code yX3_checkSpan cX3_checkSpan 3 none, Cond.classLink RX3 93 "java/lang/IllegalArgumentException", Cond.initialized "java/lang/IllegalArgumentException", Cond.methodLink RX3 61 yX3_checkChoice]
def wsL_span_r2 : List Cond := [Cond.static yX3_checkChoice, Cond.code yX3_checkChoice cX3_checkChoice 2 none, Cond.methodLink RX3 50 yX3_firstGrain, Cond.static yX3_firstGrain, Cond.code yX3_firstGrain cX3_firstGrain 3 (some .int), Cond.methodLink RX3 54 yX3_lastGrain, Cond.static yX3_lastGrain, Cond.code yX3_lastGrain cX3_lastGrain 3 (some .int), Cond.methodLink RX3 57 yX0_fill, Cond.instanceMethod yX0_fill, Cond.selects RX0 yX0_fill yX0_fill, Cond.initialized RX0, Cond.code yX0_fill cX0_fill 6 (some .int), Cond.methodLink RX0 15 Lib.Math.max.name, Cond.static Lib.Math.max.name, Cond.initialized "java/lang/Math", Cond.code Lib.Math.max.name Lib.Math.max.code 2 (some .int), Cond.methodLink RX0 21 yX0_holds, Cond.instanceMethod yX0_holds, Cond.selects RX0 yX0_holds yX0_holds, Cond.code yX0_holds cX0_holds 2 (some .boolean), Cond.fieldLink RX0 9 "PuddingstoneLine$GrainSet" "grains" "[Z", Cond.methodLink RX0 25 yX0_write, Cond.instanceMethod yX0_write]
def wsL_span_r3 : List Cond := [Cond.selects RX0 yX0_write yX0_write, Cond.code yX0_write cX0_write 3 none]
def wsL_span : List Cond := .codeWith yL_span cL_span 8 (some .int) [(0, 16, 19, 13), (0, 16, 23, 15)] :: ((wsL_span_r1 ++ (wsL_span_r2 ++ wsL_span_r3)) ++ wsX30 ++ wsX00 ++ (vx_atS RX3 119 "java/lang/IndexOutOfBoundsException" ["java/lang/RuntimeException", "java/lang/Exception"]).filter goodWord ++ (vx_atS RX3 97 "java/lang/IllegalArgumentException" ["java/lang/RuntimeException", "java/lang/Exception"]).filter goodWord)
def wsL_join_r1 : List Cond := [Cond.classLink RL 13 "java/lang/IndexOutOfBoundsException", Cond.classLink RL 15 "java/lang/IllegalArgumentException", Cond.methodLink RL 17 yX3_join, Cond.instanceMethod yX3_join, Cond.selects RX3 yX3_join yX3_join, Cond.initialized RX3, Cond.code yX3_join cX3_join 9 (some .int), Cond.methodLink RX3 42 yX3_setAt, Cond.instanceMethod yX3_setAt, Cond.selects RX3 yX3_setAt yX3_setAt, Cond.code yX3_setAt cX3_setAt 3 (some (.object "PuddingstoneLine$GrainSet")), Cond.classLink RX3 115 "java/lang/IndexOutOfBoundsException", Cond.initialized "java/lang/IndexOutOfBoundsException", Cond.methodLink RX3 211 yX3_setOrNull, Cond.instanceMethod yX3_setOrNull, Cond.selects RX3 yX3_setOrNull yX3_setOrNull, Cond.code yX3_setOrNull cX3_setOrNull 2 (some (.object "PuddingstoneLine$GrainSet")), Cond.fieldLink RX3 11 "PuddingstoneLine" "sets" "[LPuddingstoneLine$GrainSet;", Cond.methodLink RX3 61 yX3_checkChoice, Cond.static yX3_checkChoice, Cond.code yX3_checkChoice cX3_checkChoice 2 none, Cond.classLink RX3 93 "java/lang/IllegalArgumentException", Cond.initialized "java/lang/IllegalArgumentException", Cond.methodLink RX3 65 yX0_holds]
def wsL_join_r2 : List Cond := [Cond.instanceMethod yX0_holds, Cond.selects RX0 yX0_holds yX0_holds, Cond.initialized RX0, Cond.code yX0_holds cX0_holds 2 (some .boolean), Cond.fieldLink RX0 9 "PuddingstoneLine$GrainSet" "grains" "[Z", Cond.methodLink RX3 69 yX3_isJoined, Cond.static yX3_isJoined, Cond.code yX3_isJoined cX3_isJoined 3 (some .boolean), Cond.methodLink RX3 73 yX0_write, Cond.instanceMethod yX0_write, Cond.selects RX0 yX0_write yX0_write, Cond.code yX0_write cX0_write 3 none, Cond.methodLink RX3 77 yX0_count, Cond.instanceMethod yX0_count, Cond.selects RX0 yX0_count yX0_count, Cond.code yX0_count cX0_count 3 (some .int), Cond.methodLink RX0 21 yX0_holds]
def wsL_join : List Cond := .codeWith yL_join cL_join 7 (some .int) [(0, 14, 17, 13), (0, 14, 21, 15)] :: ((wsL_join_r1 ++ wsL_join_r2) ++ wsX30 ++ wsX00 ++ (vx_atS RX3 119 "java/lang/IndexOutOfBoundsException" ["java/lang/RuntimeException", "java/lang/Exception"]).filter goodWord ++ (vx_atS RX3 97 "java/lang/IllegalArgumentException" ["java/lang/RuntimeException", "java/lang/Exception"]).filter goodWord)
def wsL_change_r1 : List Cond := [Cond.classLink RL 13 "java/lang/IndexOutOfBoundsException", Cond.classLink RL 15 "java/lang/IllegalArgumentException", Cond.methodLink RL 21 yX3_change, Cond.instanceMethod yX3_change, Cond.selects RX3 yX3_change yX3_change, Cond.initialized RX3, Cond.code yX3_change cX3_change 4 (some .int), Cond.methodLink RX3 42 yX3_setAt, Cond.instanceMethod yX3_setAt, Cond.selects RX3 yX3_setAt yX3_setAt, Cond.code yX3_setAt cX3_setAt 3 (some (.object "PuddingstoneLine$GrainSet")), Cond.classLink RX3 115 "java/lang/IndexOutOfBoundsException", Cond.initialized "java/lang/IndexOutOfBoundsException", Cond.methodLink RX3 211 yX3_setOrNull, Cond.instanceMethod yX3_setOrNull, Cond.selects RX3 yX3_setOrNull yX3_setOrNull, Cond.code yX3_setOrNull cX3_setOrNull 2 (some (.object "PuddingstoneLine$GrainSet")), Cond.fieldLink RX3 11 "PuddingstoneLine" "sets" "[LPuddingstoneLine$GrainSet;", Cond.methodLink RX3 61 yX3_checkChoice, Cond.static yX3_checkChoice, Cond.code yX3_checkChoice cX3_checkChoice 2 none, Cond.classLink RX3 93 "java/lang/IllegalArgumentException", Cond.initialized "java/lang/IllegalArgumentException", Cond.methodLink RX3 81 yX3_changeSet]
def wsL_change_r2 : List Cond := [Cond.instanceMethod yX3_changeSet, Cond.selects RX3 yX3_changeSet yX3_changeSet, Cond.code yX3_changeSet cX3_changeSet 3 none, Cond.methodLink RX3 228 yX0_invert, Cond.instanceMethod yX0_invert, Cond.selects RX0 yX0_invert yX0_invert, Cond.initialized RX0, Cond.code yX0_invert cX0_invert 2 none, Cond.methodLink RX0 21 yX0_holds, Cond.instanceMethod yX0_holds, Cond.selects RX0 yX0_holds yX0_holds, Cond.code yX0_holds cX0_holds 2 (some .boolean), Cond.fieldLink RX0 9 "PuddingstoneLine$GrainSet" "grains" "[Z", Cond.methodLink RX0 25 yX0_write, Cond.instanceMethod yX0_write, Cond.selects RX0 yX0_write yX0_write, Cond.code yX0_write cX0_write 3 none, Cond.methodLink RX3 231 yX0_dropEdgePoints, Cond.instanceMethod yX0_dropEdgePoints, Cond.selects RX0 yX0_dropEdgePoints yX0_dropEdgePoints, Cond.code yX0_dropEdgePoints cX0_dropEdgePoints 4 none, Cond.methodLink RX3 234 yX0_addEdgePoints, Cond.instanceMethod yX0_addEdgePoints, Cond.selects RX0 yX0_addEdgePoints yX0_addEdgePoints]
def wsL_change_r3 : List Cond := [Cond.code yX0_addEdgePoints cX0_addEdgePoints 2 none, Cond.methodLink RX3 237 yX0_keepLonePoints, Cond.instanceMethod yX0_keepLonePoints, Cond.selects RX0 yX0_keepLonePoints yX0_keepLonePoints, Cond.code yX0_keepLonePoints cX0_keepLonePoints 2 none, Cond.methodLink RX3 240 yX0_mirror, Cond.instanceMethod yX0_mirror, Cond.selects RX0 yX0_mirror yX0_mirror, Cond.code yX0_mirror cX0_mirror 4 none, Cond.methodLink RX3 243 yX3_keepLongest, Cond.instanceMethod yX3_keepLongest, Cond.selects RX3 yX3_keepLongest yX3_keepLongest, Cond.code yX3_keepLongest cX3_keepLongest 3 none, Cond.fieldLink RX3 34 "PuddingstoneLine" "spanRow" "LPuddingstoneLine$SpanRow;", Cond.methodLink RX3 108 yX1_readRuns, Cond.instanceMethod yX1_readRuns, Cond.selects RX1 yX1_readRuns yX1_readRuns, Cond.initialized RX1, Cond.code yX1_readRuns cX1_readRuns 4 none, Cond.fieldLink RX1 18 "PuddingstoneLine$SpanRow" "size" "I", Cond.methodLink RX1 22 yX0_holds, Cond.methodLink RX1 28 yX1_begin, Cond.instanceMethod yX1_begin, Cond.selects RX1 yX1_begin yX1_begin]
def wsL_change_r4 : List Cond := [Cond.code yX1_begin cX1_begin 2 none, Cond.fieldLink RX1 9 "PuddingstoneLine$SpanRow" "firsts" "[I", Cond.methodLink RX1 32 yX1_extend, Cond.instanceMethod yX1_extend, Cond.selects RX1 yX1_extend yX1_extend, Cond.code yX1_extend cX1_extend 2 none, Cond.fieldLink RX1 15 "PuddingstoneLine$SpanRow" "lasts" "[I", Cond.methodLink RX3 249 yX1_longest, Cond.instanceMethod yX1_longest, Cond.selects RX1 yX1_longest yX1_longest, Cond.code yX1_longest cX1_longest 3 (some .int), Cond.methodLink RX1 49 yX1_length, Cond.instanceMethod yX1_length, Cond.selects RX1 yX1_length yX1_length, Cond.code yX1_length cX1_length 2 (some .int), Cond.methodLink RX1 35 yX1_fact, Cond.instanceMethod yX1_fact, Cond.selects RX1 yX1_fact yX1_fact, Cond.code yX1_fact cX1_fact 3 (some .int), Cond.methodLink RX1 39 yX1_first, Cond.instanceMethod yX1_first, Cond.selects RX1 yX1_first yX1_first, Cond.code yX1_first cX1_first 2 (some .int), Cond.methodLink RX1 43 yX1_last]
def wsL_change_r5 : List Cond := [Cond.instanceMethod yX1_last, Cond.selects RX1 yX1_last yX1_last, Cond.code yX1_last cX1_last 2 (some .int), Cond.static yX3_isPoint, Cond.code yX3_isPoint cX3_isPoint 1 (some .boolean), Cond.methodLink RX3 57 yX0_fill, Cond.instanceMethod yX0_fill, Cond.selects RX0 yX0_fill yX0_fill, Cond.code yX0_fill cX0_fill 6 (some .int), Cond.methodLink RX0 15 Lib.Math.max.name, Cond.static Lib.Math.max.name, Cond.initialized "java/lang/Math", Cond.code Lib.Math.max.name Lib.Math.max.code 2 (some .int), Cond.methodLink RX3 252 yX1_first, Cond.methodLink RX3 255 yX1_last, Cond.methodLink RX3 246 yX3_fillGaps, Cond.instanceMethod yX3_fillGaps, Cond.selects RX3 yX3_fillGaps yX3_fillGaps, Cond.code yX3_fillGaps cX3_fillGaps 2 none, Cond.methodLink RX3 112 yX1_size, Cond.instanceMethod yX1_size, Cond.selects RX1 yX1_size yX1_size, Cond.code yX1_size cX1_size 1 (some .int), Cond.methodLink RX3 77 yX0_count]
def wsL_change_r6 : List Cond := [Cond.instanceMethod yX0_count, Cond.selects RX0 yX0_count yX0_count, Cond.code yX0_count cX0_count 3 (some .int)]
def wsL_change : List Cond := .codeWith yL_change cL_change 5 (some .int) [(0, 10, 13, 13), (0, 10, 17, 15)] :: ((wsL_change_r1 ++ (wsL_change_r2 ++ (wsL_change_r3 ++ (wsL_change_r4 ++ (wsL_change_r5 ++ wsL_change_r6))))) ++ wsX30 ++ wsX00 ++ wsX10 ++ (vx_atS RX3 119 "java/lang/IndexOutOfBoundsException" ["java/lang/RuntimeException", "java/lang/Exception"]).filter goodWord ++ (vx_atS RX3 97 "java/lang/IllegalArgumentException" ["java/lang/RuntimeException", "java/lang/Exception"]).filter goodWord)
def wsL_move_r1 : List Cond := [Cond.classLink RL 13 "java/lang/IndexOutOfBoundsException", Cond.classLink RL 15 "java/lang/IllegalArgumentException", Cond.methodLink RL 25 yX3_move, Cond.instanceMethod yX3_move, Cond.selects RX3 yX3_move yX3_move, Cond.initialized RX3, Cond.code yX3_move cX3_move 5 (some .int), Cond.fieldLink RX3 22 "PuddingstoneLine" "spareSet" "LPuddingstoneLine$GrainSet;", Cond.methodLink RX3 42 yX3_setAt, Cond.instanceMethod yX3_setAt, Cond.selects RX3 yX3_setAt yX3_setAt, Cond.code yX3_setAt cX3_setAt 3 (some (.object "PuddingstoneLine$GrainSet")), Cond.classLink RX3 115 "java/lang/IndexOutOfBoundsException", Cond.initialized "java/lang/IndexOutOfBoundsException", Cond.methodLink RX3 211 yX3_setOrNull, Cond.instanceMethod yX3_setOrNull, Cond.selects RX3 yX3_setOrNull yX3_setOrNull, Cond.code yX3_setOrNull cX3_setOrNull 2 (some (.object "PuddingstoneLine$GrainSet")), Cond.fieldLink RX3 11 "PuddingstoneLine" "sets" "[LPuddingstoneLine$GrainSet;", Cond.methodLink RX3 85 yX3_checkMove, Cond.static yX3_checkMove, Cond.code yX3_checkMove cX3_checkMove 1 none, Cond.classLink RX3 93 "java/lang/IllegalArgumentException", Cond.initialized "java/lang/IllegalArgumentException"]
def wsL_move_r2 : List Cond := [Cond.methodLink RX3 89 yX0_copyFrom, Cond.instanceMethod yX0_copyFrom, Cond.selects RX0 yX0_copyFrom yX0_copyFrom, Cond.initialized RX0, Cond.code yX0_copyFrom cX0_copyFrom 3 none, Cond.methodLink RX0 21 yX0_holds, Cond.instanceMethod yX0_holds, Cond.selects RX0 yX0_holds yX0_holds, Cond.code yX0_holds cX0_holds 2 (some .boolean), Cond.fieldLink RX0 9 "PuddingstoneLine$GrainSet" "grains" "[Z", Cond.methodLink RX0 25 yX0_write, Cond.instanceMethod yX0_write, Cond.selects RX0 yX0_write yX0_write, Cond.code yX0_write cX0_write 3 none, Cond.methodLink RX3 65 yX0_holds, Cond.methodLink RX3 73 yX0_write, Cond.methodLink RX3 77 yX0_count, Cond.instanceMethod yX0_count, Cond.selects RX0 yX0_count yX0_count, Cond.code yX0_count cX0_count 3 (some .int)]
def wsL_move : List Cond := .codeWith yL_move cL_move 5 (some .int) [(0, 10, 13, 13), (0, 10, 17, 15)] :: ((wsL_move_r1 ++ wsL_move_r2) ++ wsX30 ++ wsX00 ++ (vx_atS RX3 119 "java/lang/IndexOutOfBoundsException" ["java/lang/RuntimeException", "java/lang/Exception"]).filter goodWord ++ (vx_atS RX3 97 "java/lang/IllegalArgumentException" ["java/lang/RuntimeException", "java/lang/Exception"]).filter goodWord)
def wsL_stretch_r1 : List Cond := [Cond.classLink RL 13 "java/lang/IndexOutOfBoundsException", Cond.classLink RL 15 "java/lang/IllegalArgumentException", Cond.methodLink RL 28 yX3_stretch, Cond.instanceMethod yX3_stretch, Cond.selects RX3 yX3_stretch yX3_stretch, Cond.initialized RX3, Cond.code yX3_stretch cX3_stretch 5 (some .int), Cond.classLink RX3 93 "java/lang/IllegalArgumentException", Cond.initialized "java/lang/IllegalArgumentException", Cond.fieldLink RX3 22 "PuddingstoneLine" "spareSet" "LPuddingstoneLine$GrainSet;", Cond.methodLink RX3 42 yX3_setAt, Cond.instanceMethod yX3_setAt, Cond.selects RX3 yX3_setAt yX3_setAt, Cond.code yX3_setAt cX3_setAt 3 (some (.object "PuddingstoneLine$GrainSet")), Cond.classLink RX3 115 "java/lang/IndexOutOfBoundsException", Cond.initialized "java/lang/IndexOutOfBoundsException", Cond.methodLink RX3 211 yX3_setOrNull, Cond.instanceMethod yX3_setOrNull, Cond.selects RX3 yX3_setOrNull yX3_setOrNull, Cond.code yX3_setOrNull cX3_setOrNull 2 (some (.object "PuddingstoneLine$GrainSet")), Cond.fieldLink RX3 11 "PuddingstoneLine" "sets" "[LPuddingstoneLine$GrainSet;", Cond.methodLink RX3 89 yX0_copyFrom, Cond.instanceMethod yX0_copyFrom, Cond.selects RX0 yX0_copyFrom yX0_copyFrom]
def wsL_stretch_r2 : List Cond := [Cond.initialized RX0, Cond.code yX0_copyFrom cX0_copyFrom 3 none, Cond.methodLink RX0 21 yX0_holds, Cond.instanceMethod yX0_holds, Cond.selects RX0 yX0_holds yX0_holds, Cond.code yX0_holds cX0_holds 2 (some .boolean), Cond.fieldLink RX0 9 "PuddingstoneLine$GrainSet" "grains" "[Z", Cond.methodLink RX0 25 yX0_write, Cond.instanceMethod yX0_write, Cond.selects RX0 yX0_write yX0_write, Cond.code yX0_write cX0_write 3 none, Cond.methodLink RX3 57 yX0_fill, Cond.instanceMethod yX0_fill, Cond.selects RX0 yX0_fill yX0_fill, Cond.code yX0_fill cX0_fill 6 (some .int), Cond.methodLink RX0 15 Lib.Math.max.name, Cond.static Lib.Math.max.name, Cond.initialized "java/lang/Math", Cond.code Lib.Math.max.name Lib.Math.max.code 2 (some .int), Cond.methodLink RX3 65 yX0_holds, Cond.methodLink RX3 100 yX3_putStretched, Cond.static yX3_putStretched, Cond.code yX3_putStretched cX3_putStretched 3 none, Cond.methodLink RX3 258 yX3_isPoint]
def wsL_stretch_r3 : List Cond := [Cond.static yX3_isPoint, Cond.code yX3_isPoint cX3_isPoint 1 (some .boolean), Cond.methodLink RX3 73 yX0_write, Cond.methodLink RX3 77 yX0_count, Cond.instanceMethod yX0_count, Cond.selects RX0 yX0_count yX0_count, Cond.code yX0_count cX0_count 3 (some .int)]
def wsL_stretch : List Cond := .codeWith yL_stretch cL_stretch 5 (some .int) [(0, 10, 13, 13), (0, 10, 17, 15)] :: ((wsL_stretch_r1 ++ (wsL_stretch_r2 ++ wsL_stretch_r3)) ++ wsX30 ++ wsX00 ++ (vx_atS RX3 97 "java/lang/IllegalArgumentException" ["java/lang/RuntimeException", "java/lang/Exception"]).filter goodWord ++ (vx_atS RX3 119 "java/lang/IndexOutOfBoundsException" ["java/lang/RuntimeException", "java/lang/Exception"]).filter goodWord)
def wsL_ofSet_r1 : List Cond := [Cond.classLink RL 13 "java/lang/IndexOutOfBoundsException", Cond.classLink RL 15 "java/lang/IllegalArgumentException", Cond.methodLink RL 31 yX3_ofSet, Cond.instanceMethod yX3_ofSet, Cond.selects RX3 yX3_ofSet yX3_ofSet, Cond.initialized RX3, Cond.code yX3_ofSet cX3_ofSet 4 (some .int), Cond.methodLink RX3 42 yX3_setAt, Cond.instanceMethod yX3_setAt, Cond.selects RX3 yX3_setAt yX3_setAt, Cond.code yX3_setAt cX3_setAt 3 (some (.object "PuddingstoneLine$GrainSet")), Cond.classLink RX3 115 "java/lang/IndexOutOfBoundsException", Cond.initialized "java/lang/IndexOutOfBoundsException", Cond.methodLink RX3 211 yX3_setOrNull, Cond.instanceMethod yX3_setOrNull, Cond.selects RX3 yX3_setOrNull yX3_setOrNull, Cond.code yX3_setOrNull cX3_setOrNull 2 (some (.object "PuddingstoneLine$GrainSet")), Cond.fieldLink RX3 11 "PuddingstoneLine" "sets" "[LPuddingstoneLine$GrainSet;", Cond.methodLink RX3 61 yX3_checkChoice, Cond.static yX3_checkChoice, Cond.code yX3_checkChoice cX3_checkChoice 2 none, Cond.classLink RX3 93 "java/lang/IllegalArgumentException", Cond.initialized "java/lang/IllegalArgumentException", Cond.methodLink RX3 104 yX3_factOfSet]
def wsL_ofSet_r2 : List Cond := [Cond.instanceMethod yX3_factOfSet, Cond.selects RX3 yX3_factOfSet yX3_factOfSet, Cond.code yX3_factOfSet cX3_factOfSet 3 (some .int), Cond.fieldLink RX3 34 "PuddingstoneLine" "spanRow" "LPuddingstoneLine$SpanRow;", Cond.methodLink RX3 77 yX0_count, Cond.instanceMethod yX0_count, Cond.selects RX0 yX0_count yX0_count, Cond.initialized RX0, Cond.code yX0_count cX0_count 3 (some .int), Cond.methodLink RX0 21 yX0_holds, Cond.instanceMethod yX0_holds, Cond.selects RX0 yX0_holds yX0_holds, Cond.code yX0_holds cX0_holds 2 (some .boolean), Cond.fieldLink RX0 9 "PuddingstoneLine$GrainSet" "grains" "[Z", Cond.methodLink RX3 108 yX1_readRuns, Cond.instanceMethod yX1_readRuns, Cond.selects RX1 yX1_readRuns yX1_readRuns, Cond.initialized RX1, Cond.code yX1_readRuns cX1_readRuns 4 none, Cond.fieldLink RX1 18 "PuddingstoneLine$SpanRow" "size" "I", Cond.methodLink RX1 22 yX0_holds, Cond.methodLink RX1 28 yX1_begin, Cond.instanceMethod yX1_begin, Cond.selects RX1 yX1_begin yX1_begin]
def wsL_ofSet_r3 : List Cond := [Cond.code yX1_begin cX1_begin 2 none, Cond.fieldLink RX1 9 "PuddingstoneLine$SpanRow" "firsts" "[I", Cond.methodLink RX1 32 yX1_extend, Cond.instanceMethod yX1_extend, Cond.selects RX1 yX1_extend yX1_extend, Cond.code yX1_extend cX1_extend 2 none, Cond.fieldLink RX1 15 "PuddingstoneLine$SpanRow" "lasts" "[I", Cond.methodLink RX3 112 yX1_size, Cond.instanceMethod yX1_size, Cond.selects RX1 yX1_size yX1_size, Cond.code yX1_size cX1_size 1 (some .int), Cond.methodLink RX3 175 yX0_length, Cond.instanceMethod yX0_length, Cond.selects RX0 yX0_length yX0_length, Cond.code yX0_length cX0_length 3 (some .int), Cond.methodLink RX3 261 yX1_lonePoints, Cond.instanceMethod yX1_lonePoints, Cond.selects RX1 yX1_lonePoints yX1_lonePoints, Cond.code yX1_lonePoints cX1_lonePoints 3 (some .int), Cond.methodLink RX1 49 yX1_length, Cond.instanceMethod yX1_length, Cond.selects RX1 yX1_length yX1_length, Cond.code yX1_length cX1_length 2 (some .int), Cond.methodLink RX1 35 yX1_fact]
def wsL_ofSet_r4 : List Cond := [Cond.instanceMethod yX1_fact, Cond.selects RX1 yX1_fact yX1_fact, Cond.code yX1_fact cX1_fact 3 (some .int), Cond.methodLink RX1 39 yX1_first, Cond.instanceMethod yX1_first, Cond.selects RX1 yX1_first yX1_first, Cond.code yX1_first cX1_first 2 (some .int), Cond.methodLink RX1 43 yX1_last, Cond.instanceMethod yX1_last, Cond.selects RX1 yX1_last yX1_last, Cond.code yX1_last cX1_last 2 (some .int), Cond.static yX3_isPoint, Cond.code yX3_isPoint cX3_isPoint 1 (some .boolean), Cond.methodLink RX3 249 yX1_longest, Cond.instanceMethod yX1_longest, Cond.selects RX1 yX1_longest yX1_longest, Cond.code yX1_longest cX1_longest 3 (some .int), Cond.methodLink RX3 264 yX1_length]
def wsL_ofSet : List Cond := .codeWith yL_ofSet cL_ofSet 5 (some .int) [(0, 10, 13, 13), (0, 10, 17, 15)] :: ((wsL_ofSet_r1 ++ (wsL_ofSet_r2 ++ (wsL_ofSet_r3 ++ wsL_ofSet_r4))) ++ wsX30 ++ wsX00 ++ wsX10 ++ (vx_atS RX3 119 "java/lang/IndexOutOfBoundsException" ["java/lang/RuntimeException", "java/lang/Exception"]).filter goodWord ++ (vx_atS RX3 97 "java/lang/IllegalArgumentException" ["java/lang/RuntimeException", "java/lang/Exception"]).filter goodWord)
def wsL_ofSpan_r1 : List Cond := [Cond.classLink RL 13 "java/lang/IndexOutOfBoundsException", Cond.classLink RL 15 "java/lang/IllegalArgumentException", Cond.methodLink RL 34 yX3_ofSpan, Cond.instanceMethod yX3_ofSpan, Cond.selects RX3 yX3_ofSpan yX3_ofSpan, Cond.initialized RX3, Cond.code yX3_ofSpan cX3_ofSpan 4 (some .int), Cond.classLink RX3 115 "java/lang/IndexOutOfBoundsException", Cond.initialized "java/lang/IndexOutOfBoundsException", Cond.fieldLink RX3 34 "PuddingstoneLine" "spanRow" "LPuddingstoneLine$SpanRow;", Cond.methodLink RX3 42 yX3_setAt, Cond.instanceMethod yX3_setAt, Cond.selects RX3 yX3_setAt yX3_setAt, Cond.code yX3_setAt cX3_setAt 3 (some (.object "PuddingstoneLine$GrainSet")), Cond.methodLink RX3 211 yX3_setOrNull, Cond.instanceMethod yX3_setOrNull, Cond.selects RX3 yX3_setOrNull yX3_setOrNull, Cond.code yX3_setOrNull cX3_setOrNull 2 (some (.object "PuddingstoneLine$GrainSet")), Cond.fieldLink RX3 11 "PuddingstoneLine" "sets" "[LPuddingstoneLine$GrainSet;", Cond.methodLink RX3 108 yX1_readRuns, Cond.instanceMethod yX1_readRuns, Cond.selects RX1 yX1_readRuns yX1_readRuns, Cond.initialized RX1, Cond.code yX1_readRuns cX1_readRuns 4 none]
def wsL_ofSpan_r2 : List Cond := [Cond.fieldLink RX1 18 "PuddingstoneLine$SpanRow" "size" "I", Cond.methodLink RX1 22 yX0_holds, Cond.instanceMethod yX0_holds, Cond.selects RX0 yX0_holds yX0_holds, Cond.initialized RX0, Cond.code yX0_holds cX0_holds 2 (some .boolean), Cond.fieldLink RX0 9 "PuddingstoneLine$GrainSet" "grains" "[Z", Cond.methodLink RX1 28 yX1_begin, Cond.instanceMethod yX1_begin, Cond.selects RX1 yX1_begin yX1_begin, Cond.code yX1_begin cX1_begin 2 none, Cond.fieldLink RX1 9 "PuddingstoneLine$SpanRow" "firsts" "[I", Cond.methodLink RX1 32 yX1_extend, Cond.instanceMethod yX1_extend, Cond.selects RX1 yX1_extend yX1_extend, Cond.code yX1_extend cX1_extend 2 none, Cond.fieldLink RX1 15 "PuddingstoneLine$SpanRow" "lasts" "[I", Cond.methodLink RX3 112 yX1_size, Cond.instanceMethod yX1_size, Cond.selects RX1 yX1_size yX1_size, Cond.code yX1_size cX1_size 1 (some .int), Cond.methodLink RX3 61 yX3_checkChoice, Cond.static yX3_checkChoice, Cond.code yX3_checkChoice cX3_checkChoice 2 none]
def wsL_ofSpan_r3 : List Cond := [Cond.classLink RX3 93 "java/lang/IllegalArgumentException", Cond.initialized "java/lang/IllegalArgumentException", Cond.methodLink RX3 120 yX1_fact, Cond.instanceMethod yX1_fact, Cond.selects RX1 yX1_fact yX1_fact, Cond.code yX1_fact cX1_fact 3 (some .int), Cond.methodLink RX1 39 yX1_first, Cond.instanceMethod yX1_first, Cond.selects RX1 yX1_first yX1_first, Cond.code yX1_first cX1_first 2 (some .int), Cond.methodLink RX1 43 yX1_last, Cond.instanceMethod yX1_last, Cond.selects RX1 yX1_last yX1_last, Cond.code yX1_last cX1_last 2 (some .int), Cond.static yX3_isPoint, Cond.code yX3_isPoint cX3_isPoint 1 (some .boolean)]
def wsL_ofSpan : List Cond := .codeWith yL_ofSpan cL_ofSpan 6 (some .int) [(0, 12, 15, 13), (0, 12, 19, 15)] :: ((wsL_ofSpan_r1 ++ (wsL_ofSpan_r2 ++ wsL_ofSpan_r3)) ++ wsX30 ++ wsX10 ++ wsX00 ++ (vx_atS RX3 119 "java/lang/IndexOutOfBoundsException" ["java/lang/RuntimeException", "java/lang/Exception"]).filter goodWord ++ (vx_atS RX3 97 "java/lang/IllegalArgumentException" ["java/lang/RuntimeException", "java/lang/Exception"]).filter goodWord)
def wsL_has_r1 : List Cond := [Cond.classLink RL 13 "java/lang/IndexOutOfBoundsException", Cond.methodLink RL 38 yX3_has, Cond.instanceMethod yX3_has, Cond.selects RX3 yX3_has yX3_has, Cond.initialized RX3, Cond.code yX3_has cX3_has 4 (some .boolean), Cond.methodLink RX3 42 yX3_setAt, Cond.instanceMethod yX3_setAt, Cond.selects RX3 yX3_setAt yX3_setAt, Cond.code yX3_setAt cX3_setAt 3 (some (.object "PuddingstoneLine$GrainSet")), Cond.classLink RX3 115 "java/lang/IndexOutOfBoundsException", Cond.initialized "java/lang/IndexOutOfBoundsException", Cond.methodLink RX3 211 yX3_setOrNull, Cond.instanceMethod yX3_setOrNull, Cond.selects RX3 yX3_setOrNull yX3_setOrNull, Cond.code yX3_setOrNull cX3_setOrNull 2 (some (.object "PuddingstoneLine$GrainSet")), Cond.fieldLink RX3 11 "PuddingstoneLine" "sets" "[LPuddingstoneLine$GrainSet;", Cond.methodLink RX3 124 yX3_checkGrain, Cond.static yX3_checkGrain, Cond.code yX3_checkGrain cX3_checkGrain 1 none, Cond.methodLink RX3 65 yX0_holds, Cond.instanceMethod yX0_holds, Cond.selects RX0 yX0_holds yX0_holds, Cond.initialized RX0]
def wsL_has_r2 : List Cond := [Cond.code yX0_holds cX0_holds 2 (some .boolean), Cond.fieldLink RX0 9 "PuddingstoneLine$GrainSet" "grains" "[Z"]
def wsL_has : List Cond := .codeWith yL_has cL_has 5 (some .int) [(0, 17, 20, 13)] :: ((wsL_has_r1 ++ wsL_has_r2) ++ wsX30 ++ wsX00 ++ (vx_atS RX3 119 "java/lang/IndexOutOfBoundsException" ["java/lang/RuntimeException", "java/lang/Exception"]).filter goodWord)
def wsL_far_r1 : List Cond := [Cond.classLink RL 13 "java/lang/IndexOutOfBoundsException", Cond.methodLink RL 42 yX3_far, Cond.instanceMethod yX3_far, Cond.selects RX3 yX3_far yX3_far, Cond.initialized RX3, Cond.code yX3_far cX3_far 5 (some .int), Cond.methodLink RX3 42 yX3_setAt, Cond.instanceMethod yX3_setAt, Cond.selects RX3 yX3_setAt yX3_setAt, Cond.code yX3_setAt cX3_setAt 3 (some (.object "PuddingstoneLine$GrainSet")), Cond.classLink RX3 115 "java/lang/IndexOutOfBoundsException", Cond.initialized "java/lang/IndexOutOfBoundsException", Cond.methodLink RX3 211 yX3_setOrNull, Cond.instanceMethod yX3_setOrNull, Cond.selects RX3 yX3_setOrNull yX3_setOrNull, Cond.code yX3_setOrNull cX3_setOrNull 2 (some (.object "PuddingstoneLine$GrainSet")), Cond.fieldLink RX3 11 "PuddingstoneLine" "sets" "[LPuddingstoneLine$GrainSet;", Cond.methodLink RX3 124 yX3_checkGrain, Cond.static yX3_checkGrain, Cond.code yX3_checkGrain cX3_checkGrain 1 none, Cond.methodLink RX3 65 yX0_holds, Cond.instanceMethod yX0_holds, Cond.selects RX0 yX0_holds yX0_holds, Cond.initialized RX0]
def wsL_far_r2 : List Cond := [Cond.code yX0_holds cX0_holds 2 (some .boolean), Cond.fieldLink RX0 9 "PuddingstoneLine$GrainSet" "grains" "[Z"]
def wsL_far : List Cond := .codeWith yL_far cL_far 5 (some .int) [(0, 10, 13, 13)] :: ((wsL_far_r1 ++ wsL_far_r2) ++ wsX30 ++ wsX00 ++ (vx_atS RX3 119 "java/lang/IndexOutOfBoundsException" ["java/lang/RuntimeException", "java/lang/Exception"]).filter goodWord)
def wsL_beside_r1 : List Cond := [Cond.classLink RL 13 "java/lang/IndexOutOfBoundsException", Cond.methodLink RL 45 yX3_beside, Cond.instanceMethod yX3_beside, Cond.selects RX3 yX3_beside yX3_beside, Cond.initialized RX3, Cond.code yX3_beside cX3_beside 7 (some .int), Cond.methodLink RX3 42 yX3_setAt, Cond.instanceMethod yX3_setAt, Cond.selects RX3 yX3_setAt yX3_setAt, Cond.code yX3_setAt cX3_setAt 3 (some (.object "PuddingstoneLine$GrainSet")), Cond.classLink RX3 115 "java/lang/IndexOutOfBoundsException", Cond.initialized "java/lang/IndexOutOfBoundsException", Cond.methodLink RX3 211 yX3_setOrNull, Cond.instanceMethod yX3_setOrNull, Cond.selects RX3 yX3_setOrNull yX3_setOrNull, Cond.code yX3_setOrNull cX3_setOrNull 2 (some (.object "PuddingstoneLine$GrainSet")), Cond.fieldLink RX3 11 "PuddingstoneLine" "sets" "[LPuddingstoneLine$GrainSet;", Cond.methodLink RX3 127 yX0_isInside, Cond.instanceMethod yX0_isInside, Cond.selects RX0 yX0_isInside yX0_isInside, Cond.initialized RX0, Cond.code yX0_isInside cX0_isInside 3 (some .boolean), Cond.methodLink RX0 21 yX0_holds, Cond.instanceMethod yX0_holds]
def wsL_beside_r2 : List Cond := [Cond.selects RX0 yX0_holds yX0_holds, Cond.code yX0_holds cX0_holds 2 (some .boolean), Cond.fieldLink RX0 9 "PuddingstoneLine$GrainSet" "grains" "[Z", Cond.methodLink RX3 131 yX3_canLie, Cond.static yX3_canLie, Cond.code yX3_canLie cX3_canLie 5 (some .boolean), Cond.methodLink RX3 65 yX0_holds]
def wsL_beside : List Cond := .codeWith yL_beside cL_beside 5 (some .int) [(0, 10, 13, 13)] :: ((wsL_beside_r1 ++ wsL_beside_r2) ++ wsX30 ++ wsX00 ++ (vx_atS RX3 119 "java/lang/IndexOutOfBoundsException" ["java/lang/RuntimeException", "java/lang/Exception"]).filter goodWord)
def wsL_raise_r1 : List Cond := [Cond.classLink RL 13 "java/lang/IndexOutOfBoundsException", Cond.classLink RL 15 "java/lang/IllegalArgumentException", Cond.methodLink RL 48 yX3_raise, Cond.instanceMethod yX3_raise, Cond.selects RX3 yX3_raise yX3_raise, Cond.initialized RX3, Cond.code yX3_raise cX3_raise 9 (some .int), Cond.classLink RX3 93 "java/lang/IllegalArgumentException", Cond.initialized "java/lang/IllegalArgumentException", Cond.methodLink RX3 135 yX3_functionAt, Cond.instanceMethod yX3_functionAt, Cond.selects RX3 yX3_functionAt yX3_functionAt, Cond.code yX3_functionAt cX3_functionAt 3 (some (.object "PuddingstoneLine$StepFunction")), Cond.classLink RX3 115 "java/lang/IndexOutOfBoundsException", Cond.initialized "java/lang/IndexOutOfBoundsException", Cond.fieldLink RX3 17 "PuddingstoneLine" "functions" "[LPuddingstoneLine$StepFunction;", Cond.methodLink RX3 46 yX3_checkSpan, Cond.static yX3_checkSpan, Cond.code yX3_checkSpan cX3_checkSpan 3 none, Cond.methodLink RX3 61 yX3_checkChoice, Cond.static yX3_checkChoice, Cond.code yX3_checkChoice cX3_checkChoice 2 none, Cond.methodLink RX3 54 yX3_lastGrain, Cond.static yX3_lastGrain]
def wsL_raise_r2 : List Cond := [Cond.code yX3_lastGrain cX3_lastGrain 3 (some .int), Cond.methodLink RX3 50 yX3_firstGrain, Cond.static yX3_firstGrain, Cond.code yX3_firstGrain cX3_firstGrain 3 (some .int), Cond.methodLink RX3 141 yX2_at, Cond.instanceMethod yX2_at, Cond.selects RX2 yX2_at yX2_at, Cond.initialized RX2, Cond.code yX2_at cX2_at 2 (some .int), Cond.fieldLink RX2 9 "PuddingstoneLine$StepFunction" "values" "[I", Cond.methodLink RX3 145 yX2_write, Cond.instanceMethod yX2_write, Cond.selects RX2 yX2_write yX2_write, Cond.code yX2_write cX2_write 3 none, Cond.methodLink RX2 15 Lib.Math.min.name, Cond.static Lib.Math.min.name, Cond.initialized "java/lang/Math", Cond.code Lib.Math.min.name Lib.Math.min.code 2 (some .int), Cond.methodLink RX2 21 Lib.Math.max.name, Cond.static Lib.Math.max.name, Cond.code Lib.Math.max.name Lib.Math.max.code 2 (some .int), Cond.methodLink RX3 147 yX2_steps, Cond.instanceMethod yX2_steps, Cond.selects RX2 yX2_steps yX2_steps]
def wsL_raise_r3 : List Cond := [Cond.code yX2_steps cX2_steps 3 (some .int), Cond.methodLink RX2 24 yX2_at]
def wsL_raise : List Cond := .codeWith yL_raise cL_raise 8 (some .int) [(0, 16, 19, 13), (0, 16, 23, 15)] :: ((wsL_raise_r1 ++ (wsL_raise_r2 ++ wsL_raise_r3)) ++ wsX30 ++ wsX20 ++ (vx_atS RX3 97 "java/lang/IllegalArgumentException" ["java/lang/RuntimeException", "java/lang/Exception"]).filter goodWord ++ (vx_atS RX3 119 "java/lang/IndexOutOfBoundsException" ["java/lang/RuntimeException", "java/lang/Exception"]).filter goodWord)
def wsL_set_r1 : List Cond := [Cond.classLink RL 13 "java/lang/IndexOutOfBoundsException", Cond.classLink RL 15 "java/lang/IllegalArgumentException", Cond.methodLink RL 52 yX3_set, Cond.instanceMethod yX3_set, Cond.selects RX3 yX3_set yX3_set, Cond.initialized RX3, Cond.code yX3_set cX3_set 7 (some .int), Cond.classLink RX3 93 "java/lang/IllegalArgumentException", Cond.initialized "java/lang/IllegalArgumentException", Cond.methodLink RX3 135 yX3_functionAt, Cond.instanceMethod yX3_functionAt, Cond.selects RX3 yX3_functionAt yX3_functionAt, Cond.code yX3_functionAt cX3_functionAt 3 (some (.object "PuddingstoneLine$StepFunction")), Cond.classLink RX3 115 "java/lang/IndexOutOfBoundsException", Cond.initialized "java/lang/IndexOutOfBoundsException", Cond.fieldLink RX3 17 "PuddingstoneLine" "functions" "[LPuddingstoneLine$StepFunction;", Cond.methodLink RX3 42 yX3_setAt, Cond.instanceMethod yX3_setAt, Cond.selects RX3 yX3_setAt yX3_setAt, Cond.code yX3_setAt cX3_setAt 3 (some (.object "PuddingstoneLine$GrainSet")), Cond.methodLink RX3 211 yX3_setOrNull, Cond.instanceMethod yX3_setOrNull, Cond.selects RX3 yX3_setOrNull yX3_setOrNull, Cond.code yX3_setOrNull cX3_setOrNull 2 (some (.object "PuddingstoneLine$GrainSet"))]
def wsL_set_r2 : List Cond := [Cond.fieldLink RX3 11 "PuddingstoneLine" "sets" "[LPuddingstoneLine$GrainSet;", Cond.methodLink RX3 65 yX0_holds, Cond.instanceMethod yX0_holds, Cond.selects RX0 yX0_holds yX0_holds, Cond.initialized RX0, Cond.code yX0_holds cX0_holds 2 (some .boolean), Cond.fieldLink RX0 9 "PuddingstoneLine$GrainSet" "grains" "[Z", Cond.methodLink RX3 145 yX2_write, Cond.instanceMethod yX2_write, Cond.selects RX2 yX2_write yX2_write, Cond.initialized RX2, Cond.code yX2_write cX2_write 3 none, Cond.fieldLink RX2 9 "PuddingstoneLine$StepFunction" "values" "[I", Cond.methodLink RX2 15 Lib.Math.min.name, Cond.static Lib.Math.min.name, Cond.initialized "java/lang/Math", Cond.code Lib.Math.min.name Lib.Math.min.code 2 (some .int), Cond.methodLink RX2 21 Lib.Math.max.name, Cond.static Lib.Math.max.name, Cond.code Lib.Math.max.name Lib.Math.max.code 2 (some .int), Cond.methodLink RX3 147 yX2_steps, Cond.instanceMethod yX2_steps, Cond.selects RX2 yX2_steps yX2_steps, Cond.code yX2_steps cX2_steps 3 (some .int)]
def wsL_set_r3 : List Cond := [Cond.methodLink RX2 24 yX2_at, Cond.instanceMethod yX2_at, Cond.selects RX2 yX2_at yX2_at, Cond.code yX2_at cX2_at 2 (some .int)]
def wsL_set : List Cond := .codeWith yL_set cL_set 6 (some .int) [(0, 12, 15, 13), (0, 12, 19, 15)] :: ((wsL_set_r1 ++ (wsL_set_r2 ++ wsL_set_r3)) ++ wsX30 ++ wsX00 ++ wsX20 ++ (vx_atS RX3 97 "java/lang/IllegalArgumentException" ["java/lang/RuntimeException", "java/lang/Exception"]).filter goodWord ++ (vx_atS RX3 119 "java/lang/IndexOutOfBoundsException" ["java/lang/RuntimeException", "java/lang/Exception"]).filter goodWord)
def wsL_mix_r1 : List Cond := [Cond.classLink RL 13 "java/lang/IndexOutOfBoundsException", Cond.classLink RL 15 "java/lang/IllegalArgumentException", Cond.methodLink RL 55 yX3_mix, Cond.instanceMethod yX3_mix, Cond.selects RX3 yX3_mix yX3_mix, Cond.initialized RX3, Cond.code yX3_mix cX3_mix 9 (some .int), Cond.methodLink RX3 135 yX3_functionAt, Cond.instanceMethod yX3_functionAt, Cond.selects RX3 yX3_functionAt yX3_functionAt, Cond.code yX3_functionAt cX3_functionAt 3 (some (.object "PuddingstoneLine$StepFunction")), Cond.classLink RX3 115 "java/lang/IndexOutOfBoundsException", Cond.initialized "java/lang/IndexOutOfBoundsException", Cond.fieldLink RX3 17 "PuddingstoneLine" "functions" "[LPuddingstoneLine$StepFunction;", Cond.methodLink RX3 61 yX3_checkChoice, Cond.static yX3_checkChoice, Cond.code yX3_checkChoice cX3_checkChoice 2 none, Cond.classLink RX3 93 "java/lang/IllegalArgumentException", Cond.initialized "java/lang/IllegalArgumentException", Cond.methodLink RX3 141 yX2_at, Cond.instanceMethod yX2_at, Cond.selects RX2 yX2_at yX2_at, Cond.initialized RX2, Cond.code yX2_at cX2_at 2 (some .int)]
def wsL_mix_r2 : List Cond := [Cond.fieldLink RX2 9 "PuddingstoneLine$StepFunction" "values" "[I", Cond.methodLink RX3 152 yX3_mixed, Cond.static yX3_mixed, Cond.code yX3_mixed cX3_mixed 3 (some .int), Cond.methodLink RX3 266 Lib.Math.min.name, Cond.static Lib.Math.min.name, Cond.initialized "java/lang/Math", Cond.code Lib.Math.min.name Lib.Math.min.code 2 (some .int), Cond.methodLink RX3 271 Lib.Math.max.name, Cond.static Lib.Math.max.name, Cond.code Lib.Math.max.name Lib.Math.max.code 2 (some .int), Cond.methodLink RX3 145 yX2_write, Cond.instanceMethod yX2_write, Cond.selects RX2 yX2_write yX2_write, Cond.code yX2_write cX2_write 3 none, Cond.methodLink RX2 15 Lib.Math.min.name, Cond.methodLink RX2 21 Lib.Math.max.name, Cond.methodLink RX3 147 yX2_steps, Cond.instanceMethod yX2_steps, Cond.selects RX2 yX2_steps yX2_steps, Cond.code yX2_steps cX2_steps 3 (some .int), Cond.methodLink RX2 24 yX2_at]
def wsL_mix : List Cond := .codeWith yL_mix cL_mix 7 (some .int) [(0, 14, 17, 13), (0, 14, 21, 15)] :: ((wsL_mix_r1 ++ wsL_mix_r2) ++ wsX30 ++ wsX20 ++ (vx_atS RX3 119 "java/lang/IndexOutOfBoundsException" ["java/lang/RuntimeException", "java/lang/Exception"]).filter goodWord ++ (vx_atS RX3 97 "java/lang/IllegalArgumentException" ["java/lang/RuntimeException", "java/lang/Exception"]).filter goodWord)
def wsL_turn_r1 : List Cond := [Cond.classLink RL 13 "java/lang/IndexOutOfBoundsException", Cond.classLink RL 15 "java/lang/IllegalArgumentException", Cond.methodLink RL 58 yX3_turn, Cond.instanceMethod yX3_turn, Cond.selects RX3 yX3_turn yX3_turn, Cond.initialized RX3, Cond.code yX3_turn cX3_turn 5 (some .int), Cond.classLink RX3 93 "java/lang/IllegalArgumentException", Cond.initialized "java/lang/IllegalArgumentException", Cond.methodLink RX3 135 yX3_functionAt, Cond.instanceMethod yX3_functionAt, Cond.selects RX3 yX3_functionAt yX3_functionAt, Cond.code yX3_functionAt cX3_functionAt 3 (some (.object "PuddingstoneLine$StepFunction")), Cond.classLink RX3 115 "java/lang/IndexOutOfBoundsException", Cond.initialized "java/lang/IndexOutOfBoundsException", Cond.fieldLink RX3 17 "PuddingstoneLine" "functions" "[LPuddingstoneLine$StepFunction;", Cond.methodLink RX3 61 yX3_checkChoice, Cond.static yX3_checkChoice, Cond.code yX3_checkChoice cX3_checkChoice 2 none, Cond.methodLink RX3 157 yX3_turnFunction, Cond.instanceMethod yX3_turnFunction, Cond.selects RX3 yX3_turnFunction yX3_turnFunction, Cond.code yX3_turnFunction cX3_turnFunction 4 none, Cond.fieldLink RX3 27 "PuddingstoneLine" "spareFunction" "LPuddingstoneLine$StepFunction;"]
def wsL_turn_r2 : List Cond := [Cond.methodLink RX3 274 yX2_copyFrom, Cond.instanceMethod yX2_copyFrom, Cond.selects RX2 yX2_copyFrom yX2_copyFrom, Cond.initialized RX2, Cond.code yX2_copyFrom cX2_copyFrom 3 none, Cond.methodLink RX2 24 yX2_at, Cond.instanceMethod yX2_at, Cond.selects RX2 yX2_at yX2_at, Cond.code yX2_at cX2_at 2 (some .int), Cond.fieldLink RX2 9 "PuddingstoneLine$StepFunction" "values" "[I", Cond.methodLink RX2 28 yX2_write, Cond.instanceMethod yX2_write, Cond.selects RX2 yX2_write yX2_write, Cond.code yX2_write cX2_write 3 none, Cond.methodLink RX2 15 Lib.Math.min.name, Cond.static Lib.Math.min.name, Cond.initialized "java/lang/Math", Cond.code Lib.Math.min.name Lib.Math.min.code 2 (some .int), Cond.methodLink RX2 21 Lib.Math.max.name, Cond.static Lib.Math.max.name, Cond.code Lib.Math.max.name Lib.Math.max.code 2 (some .int), Cond.methodLink RX3 277 yX2_negate, Cond.instanceMethod yX2_negate, Cond.selects RX2 yX2_negate yX2_negate]
def wsL_turn_r3 : List Cond := [Cond.code yX2_negate cX2_negate 2 none, Cond.methodLink RX3 280 yX2_climbFromLeft, Cond.instanceMethod yX2_climbFromLeft, Cond.selects RX2 yX2_climbFromLeft yX2_climbFromLeft, Cond.code yX2_climbFromLeft cX2_climbFromLeft 2 none, Cond.methodLink RX3 283 yX2_climbFromRight, Cond.instanceMethod yX2_climbFromRight, Cond.selects RX2 yX2_climbFromRight yX2_climbFromRight, Cond.code yX2_climbFromRight cX2_climbFromRight 2 none, Cond.methodLink RX3 286 yX2_addUp, Cond.instanceMethod yX2_addUp, Cond.selects RX2 yX2_addUp yX2_addUp, Cond.code yX2_addUp cX2_addUp 3 none, Cond.static yX3_isPoint, Cond.code yX3_isPoint cX3_isPoint 1 (some .boolean), Cond.methodLink RX3 289 yX2_mirrorOf, Cond.instanceMethod yX2_mirrorOf, Cond.selects RX2 yX2_mirrorOf yX2_mirrorOf, Cond.code yX2_mirrorOf cX2_mirrorOf 3 none, Cond.methodLink RX3 292 yX2_greatestNear, Cond.instanceMethod yX2_greatestNear, Cond.selects RX2 yX2_greatestNear yX2_greatestNear, Cond.code yX2_greatestNear cX2_greatestNear 4 none, Cond.methodLink RX2 36 yX2_greatest]
def wsL_turn_r4 : List Cond := [Cond.instanceMethod yX2_greatest, Cond.selects RX2 yX2_greatest yX2_greatest, Cond.code yX2_greatest cX2_greatest 5 (some .int), Cond.methodLink RX3 296 yX2_leastNear, Cond.instanceMethod yX2_leastNear, Cond.selects RX2 yX2_leastNear yX2_leastNear, Cond.code yX2_leastNear cX2_leastNear 4 none, Cond.methodLink RX2 39 yX2_least, Cond.instanceMethod yX2_least, Cond.selects RX2 yX2_least yX2_least, Cond.code yX2_least cX2_least 5 (some .int), Cond.methodLink RX3 147 yX2_steps, Cond.instanceMethod yX2_steps, Cond.selects RX2 yX2_steps yX2_steps, Cond.code yX2_steps cX2_steps 3 (some .int)]
def wsL_turn : List Cond := .codeWith yL_turn cL_turn 6 (some .int) [(0, 12, 15, 13), (0, 12, 19, 15)] :: ((wsL_turn_r1 ++ (wsL_turn_r2 ++ (wsL_turn_r3 ++ wsL_turn_r4))) ++ wsX30 ++ wsX20 ++ (vx_atS RX3 97 "java/lang/IllegalArgumentException" ["java/lang/RuntimeException", "java/lang/Exception"]).filter goodWord ++ (vx_atS RX3 119 "java/lang/IndexOutOfBoundsException" ["java/lang/RuntimeException", "java/lang/Exception"]).filter goodWord)
def wsL_thick_r1 : List Cond := [Cond.classLink RL 13 "java/lang/IndexOutOfBoundsException", Cond.classLink RL 15 "java/lang/IllegalArgumentException", Cond.methodLink RL 61 yX3_thick, Cond.instanceMethod yX3_thick, Cond.selects RX3 yX3_thick yX3_thick, Cond.initialized RX3, Cond.code yX3_thick cX3_thick 5 (some .int), Cond.methodLink RX3 135 yX3_functionAt, Cond.instanceMethod yX3_functionAt, Cond.selects RX3 yX3_functionAt yX3_functionAt, Cond.code yX3_functionAt cX3_functionAt 3 (some (.object "PuddingstoneLine$StepFunction")), Cond.classLink RX3 115 "java/lang/IndexOutOfBoundsException", Cond.initialized "java/lang/IndexOutOfBoundsException", Cond.fieldLink RX3 17 "PuddingstoneLine" "functions" "[LPuddingstoneLine$StepFunction;", Cond.methodLink RX3 161 yX3_checkFamily, Cond.static yX3_checkFamily, Cond.code yX3_checkFamily cX3_checkFamily 1 none, Cond.classLink RX3 93 "java/lang/IllegalArgumentException", Cond.initialized "java/lang/IllegalArgumentException", Cond.methodLink RX3 164 yX3_thickness, Cond.instanceMethod yX3_thickness, Cond.selects RX3 yX3_thickness yX3_thickness, Cond.code yX3_thickness cX3_thickness 6 (some .int), Cond.methodLink RX3 308 yX3_memberOrNull]
def wsL_thick_r2 : List Cond := [Cond.instanceMethod yX3_memberOrNull, Cond.selects RX3 yX3_memberOrNull yX3_memberOrNull, Cond.code yX3_memberOrNull cX3_memberOrNull 3 (some (.object "PuddingstoneLine$GrainSet")), Cond.methodLink RX3 211 yX3_setOrNull, Cond.instanceMethod yX3_setOrNull, Cond.selects RX3 yX3_setOrNull yX3_setOrNull, Cond.code yX3_setOrNull cX3_setOrNull 2 (some (.object "PuddingstoneLine$GrainSet")), Cond.fieldLink RX3 11 "PuddingstoneLine" "sets" "[LPuddingstoneLine$GrainSet;", Cond.methodLink RX3 65 yX0_holds, Cond.instanceMethod yX0_holds, Cond.selects RX0 yX0_holds yX0_holds, Cond.initialized RX0, Cond.code yX0_holds cX0_holds 2 (some .boolean), Cond.fieldLink RX0 9 "PuddingstoneLine$GrainSet" "grains" "[Z", Cond.methodLink RX3 145 yX2_write, Cond.instanceMethod yX2_write, Cond.selects RX2 yX2_write yX2_write, Cond.initialized RX2, Cond.code yX2_write cX2_write 3 none, Cond.fieldLink RX2 9 "PuddingstoneLine$StepFunction" "values" "[I", Cond.methodLink RX2 15 Lib.Math.min.name, Cond.static Lib.Math.min.name, Cond.initialized "java/lang/Math", Cond.code Lib.Math.min.name Lib.Math.min.code 2 (some .int)]
def wsL_thick_r3 : List Cond := [Cond.methodLink RX2 21 Lib.Math.max.name, Cond.static Lib.Math.max.name, Cond.code Lib.Math.max.name Lib.Math.max.code 2 (some .int), Cond.methodLink RX3 147 yX2_steps, Cond.instanceMethod yX2_steps, Cond.selects RX2 yX2_steps yX2_steps, Cond.code yX2_steps cX2_steps 3 (some .int), Cond.methodLink RX2 24 yX2_at, Cond.instanceMethod yX2_at, Cond.selects RX2 yX2_at yX2_at, Cond.code yX2_at cX2_at 2 (some .int)]
def wsL_thick : List Cond := .codeWith yL_thick cL_thick 5 (some .int) [(0, 10, 13, 13), (0, 10, 17, 15)] :: ((wsL_thick_r1 ++ (wsL_thick_r2 ++ wsL_thick_r3)) ++ wsX30 ++ wsX00 ++ wsX20 ++ (vx_atS RX3 119 "java/lang/IndexOutOfBoundsException" ["java/lang/RuntimeException", "java/lang/Exception"]).filter goodWord ++ (vx_atS RX3 97 "java/lang/IllegalArgumentException" ["java/lang/RuntimeException", "java/lang/Exception"]).filter goodWord)
def wsL_where_r1 : List Cond := [Cond.classLink RL 13 "java/lang/IndexOutOfBoundsException", Cond.methodLink RL 64 yX3_where, Cond.instanceMethod yX3_where, Cond.selects RX3 yX3_where yX3_where, Cond.initialized RX3, Cond.code yX3_where cX3_where 9 (some .int), Cond.methodLink RX3 42 yX3_setAt, Cond.instanceMethod yX3_setAt, Cond.selects RX3 yX3_setAt yX3_setAt, Cond.code yX3_setAt cX3_setAt 3 (some (.object "PuddingstoneLine$GrainSet")), Cond.classLink RX3 115 "java/lang/IndexOutOfBoundsException", Cond.initialized "java/lang/IndexOutOfBoundsException", Cond.methodLink RX3 211 yX3_setOrNull, Cond.instanceMethod yX3_setOrNull, Cond.selects RX3 yX3_setOrNull yX3_setOrNull, Cond.code yX3_setOrNull cX3_setOrNull 2 (some (.object "PuddingstoneLine$GrainSet")), Cond.fieldLink RX3 11 "PuddingstoneLine" "sets" "[LPuddingstoneLine$GrainSet;", Cond.methodLink RX3 135 yX3_functionAt, Cond.instanceMethod yX3_functionAt, Cond.selects RX3 yX3_functionAt yX3_functionAt, Cond.code yX3_functionAt cX3_functionAt 3 (some (.object "PuddingstoneLine$StepFunction")), Cond.fieldLink RX3 17 "PuddingstoneLine" "functions" "[LPuddingstoneLine$StepFunction;", Cond.methodLink RX3 141 yX2_at, Cond.instanceMethod yX2_at]
def wsL_where_r2 : List Cond := [Cond.selects RX2 yX2_at yX2_at, Cond.initialized RX2, Cond.code yX2_at cX2_at 2 (some .int), Cond.fieldLink RX2 9 "PuddingstoneLine$StepFunction" "values" "[I", Cond.methodLink RX3 73 yX0_write, Cond.instanceMethod yX0_write, Cond.selects RX0 yX0_write yX0_write, Cond.initialized RX0, Cond.code yX0_write cX0_write 3 none, Cond.fieldLink RX0 9 "PuddingstoneLine$GrainSet" "grains" "[Z", Cond.methodLink RX3 77 yX0_count, Cond.instanceMethod yX0_count, Cond.selects RX0 yX0_count yX0_count, Cond.code yX0_count cX0_count 3 (some .int), Cond.methodLink RX0 21 yX0_holds, Cond.instanceMethod yX0_holds, Cond.selects RX0 yX0_holds yX0_holds, Cond.code yX0_holds cX0_holds 2 (some .boolean)]
def wsL_where : List Cond := .codeWith yL_where cL_where 7 (some .int) [(0, 14, 17, 13)] :: ((wsL_where_r1 ++ wsL_where_r2) ++ wsX30 ++ wsX20 ++ wsX00 ++ (vx_atS RX3 119 "java/lang/IndexOutOfBoundsException" ["java/lang/RuntimeException", "java/lang/Exception"]).filter goodWord)
def wsL_ofFunction_r1 : List Cond := [Cond.classLink RL 13 "java/lang/IndexOutOfBoundsException", Cond.classLink RL 15 "java/lang/IllegalArgumentException", Cond.methodLink RL 67 yX3_ofFunction, Cond.instanceMethod yX3_ofFunction, Cond.selects RX3 yX3_ofFunction yX3_ofFunction, Cond.initialized RX3, Cond.code yX3_ofFunction cX3_ofFunction 4 (some .int), Cond.methodLink RX3 135 yX3_functionAt, Cond.instanceMethod yX3_functionAt, Cond.selects RX3 yX3_functionAt yX3_functionAt, Cond.code yX3_functionAt cX3_functionAt 3 (some (.object "PuddingstoneLine$StepFunction")), Cond.classLink RX3 115 "java/lang/IndexOutOfBoundsException", Cond.initialized "java/lang/IndexOutOfBoundsException", Cond.fieldLink RX3 17 "PuddingstoneLine" "functions" "[LPuddingstoneLine$StepFunction;", Cond.methodLink RX3 61 yX3_checkChoice, Cond.static yX3_checkChoice, Cond.code yX3_checkChoice cX3_checkChoice 2 none, Cond.classLink RX3 93 "java/lang/IllegalArgumentException", Cond.initialized "java/lang/IllegalArgumentException", Cond.methodLink RX3 167 yX3_factOfFunction, Cond.static yX3_factOfFunction, Cond.code yX3_factOfFunction cX3_factOfFunction 2 (some .int), Cond.methodLink RX3 147 yX2_steps, Cond.instanceMethod yX2_steps]
def wsL_ofFunction_r2 : List Cond := [Cond.selects RX2 yX2_steps yX2_steps, Cond.initialized RX2, Cond.code yX2_steps cX2_steps 3 (some .int), Cond.methodLink RX2 24 yX2_at, Cond.instanceMethod yX2_at, Cond.selects RX2 yX2_at yX2_at, Cond.code yX2_at cX2_at 2 (some .int), Cond.fieldLink RX2 9 "PuddingstoneLine$StepFunction" "values" "[I", Cond.methodLink RX3 299 yX2_least, Cond.instanceMethod yX2_least, Cond.selects RX2 yX2_least yX2_least, Cond.code yX2_least cX2_least 5 (some .int), Cond.methodLink RX2 21 Lib.Math.max.name, Cond.static Lib.Math.max.name, Cond.initialized "java/lang/Math", Cond.code Lib.Math.max.name Lib.Math.max.code 2 (some .int), Cond.methodLink RX2 15 Lib.Math.min.name, Cond.static Lib.Math.min.name, Cond.code Lib.Math.min.name Lib.Math.min.code 2 (some .int), Cond.methodLink RX3 302 yX2_greatest, Cond.instanceMethod yX2_greatest, Cond.selects RX2 yX2_greatest yX2_greatest, Cond.code yX2_greatest cX2_greatest 5 (some .int), Cond.methodLink RX3 305 yX2_firstGreatest]
def wsL_ofFunction_r3 : List Cond := [Cond.instanceMethod yX2_firstGreatest, Cond.selects RX2 yX2_firstGreatest yX2_firstGreatest, Cond.code yX2_firstGreatest cX2_firstGreatest 3 (some .int), Cond.methodLink RX3 192 yX3_areaBetween, Cond.static yX3_areaBetween, Cond.code yX3_areaBetween cX3_areaBetween 5 (some .int), Cond.methodLink RX3 141 yX2_at]
def wsL_ofFunction : List Cond := .codeWith yL_ofFunction cL_ofFunction 5 (some .int) [(0, 10, 13, 13), (0, 10, 17, 15)] :: ((wsL_ofFunction_r1 ++ (wsL_ofFunction_r2 ++ wsL_ofFunction_r3)) ++ wsX30 ++ wsX20 ++ (vx_atS RX3 119 "java/lang/IndexOutOfBoundsException" ["java/lang/RuntimeException", "java/lang/Exception"]).filter goodWord ++ (vx_atS RX3 97 "java/lang/IllegalArgumentException" ["java/lang/RuntimeException", "java/lang/Exception"]).filter goodWord)
def wsL_value : List Cond := .codeWith yL_value cL_value 5 (some .int) [(0, 10, 13, 13)] :: ([.classLink RL 13 "java/lang/IndexOutOfBoundsException", .methodLink RL 70 yX3_value, .instanceMethod yX3_value, .selects RX3 yX3_value yX3_value, .initialized RX3, .code yX3_value cX3_value 4 (some .int), .methodLink RX3 135 yX3_functionAt, .instanceMethod yX3_functionAt, .selects RX3 yX3_functionAt yX3_functionAt, .code yX3_functionAt cX3_functionAt 3 (some (.object "PuddingstoneLine$StepFunction")), .classLink RX3 115 "java/lang/IndexOutOfBoundsException", .initialized "java/lang/IndexOutOfBoundsException", .fieldLink RX3 17 "PuddingstoneLine" "functions" "[LPuddingstoneLine$StepFunction;", .methodLink RX3 124 yX3_checkGrain, .static yX3_checkGrain, .code yX3_checkGrain cX3_checkGrain 1 none, .methodLink RX3 141 yX2_at, .instanceMethod yX2_at, .selects RX2 yX2_at yX2_at, .initialized RX2, .code yX2_at cX2_at 2 (some .int), .fieldLink RX2 9 "PuddingstoneLine$StepFunction" "values" "[I"] ++ wsX30 ++ wsX20 ++ (vx_atS RX3 119 "java/lang/IndexOutOfBoundsException" ["java/lang/RuntimeException", "java/lang/Exception"]).filter goodWord)
def wsL_area_r1 : List Cond := [Cond.classLink RL 13 "java/lang/IndexOutOfBoundsException", Cond.methodLink RL 73 yX3_area, Cond.instanceMethod yX3_area, Cond.selects RX3 yX3_area yX3_area, Cond.initialized RX3, Cond.code yX3_area cX3_area 4 (some .int), Cond.methodLink RX3 135 yX3_functionAt, Cond.instanceMethod yX3_functionAt, Cond.selects RX3 yX3_functionAt yX3_functionAt, Cond.code yX3_functionAt cX3_functionAt 3 (some (.object "PuddingstoneLine$StepFunction")), Cond.classLink RX3 115 "java/lang/IndexOutOfBoundsException", Cond.initialized "java/lang/IndexOutOfBoundsException", Cond.fieldLink RX3 17 "PuddingstoneLine" "functions" "[LPuddingstoneLine$StepFunction;", Cond.methodLink RX3 42 yX3_setAt, Cond.instanceMethod yX3_setAt, Cond.selects RX3 yX3_setAt yX3_setAt, Cond.code yX3_setAt cX3_setAt 3 (some (.object "PuddingstoneLine$GrainSet")), Cond.methodLink RX3 211 yX3_setOrNull, Cond.instanceMethod yX3_setOrNull, Cond.selects RX3 yX3_setOrNull yX3_setOrNull, Cond.code yX3_setOrNull cX3_setOrNull 2 (some (.object "PuddingstoneLine$GrainSet")), Cond.fieldLink RX3 11 "PuddingstoneLine" "sets" "[LPuddingstoneLine$GrainSet;", Cond.methodLink RX3 171 yX3_areaOver, Cond.static yX3_areaOver]
def wsL_area_r2 : List Cond := [Cond.code yX3_areaOver cX3_areaOver 4 (some .int), Cond.methodLink RX3 65 yX0_holds, Cond.instanceMethod yX0_holds, Cond.selects RX0 yX0_holds yX0_holds, Cond.initialized RX0, Cond.code yX0_holds cX0_holds 2 (some .boolean), Cond.fieldLink RX0 9 "PuddingstoneLine$GrainSet" "grains" "[Z", Cond.methodLink RX3 141 yX2_at, Cond.instanceMethod yX2_at, Cond.selects RX2 yX2_at yX2_at, Cond.initialized RX2, Cond.code yX2_at cX2_at 2 (some .int), Cond.fieldLink RX2 9 "PuddingstoneLine$StepFunction" "values" "[I"]
def wsL_area : List Cond := .codeWith yL_area cL_area 5 (some .int) [(0, 10, 13, 13)] :: ((wsL_area_r1 ++ wsL_area_r2) ++ wsX30 ++ wsX00 ++ wsX20 ++ (vx_atS RX3 119 "java/lang/IndexOutOfBoundsException" ["java/lang/RuntimeException", "java/lang/Exception"]).filter goodWord)
def wsL_mean_r1 : List Cond := [Cond.classLink RL 13 "java/lang/IndexOutOfBoundsException", Cond.methodLink RL 76 yX3_mean, Cond.instanceMethod yX3_mean, Cond.selects RX3 yX3_mean yX3_mean, Cond.initialized RX3, Cond.code yX3_mean cX3_mean 6 (some .double), Cond.methodLink RX3 135 yX3_functionAt, Cond.instanceMethod yX3_functionAt, Cond.selects RX3 yX3_functionAt yX3_functionAt, Cond.code yX3_functionAt cX3_functionAt 3 (some (.object "PuddingstoneLine$StepFunction")), Cond.classLink RX3 115 "java/lang/IndexOutOfBoundsException", Cond.initialized "java/lang/IndexOutOfBoundsException", Cond.fieldLink RX3 17 "PuddingstoneLine" "functions" "[LPuddingstoneLine$StepFunction;", Cond.methodLink RX3 42 yX3_setAt, Cond.instanceMethod yX3_setAt, Cond.selects RX3 yX3_setAt yX3_setAt, Cond.code yX3_setAt cX3_setAt 3 (some (.object "PuddingstoneLine$GrainSet")), Cond.methodLink RX3 211 yX3_setOrNull, Cond.instanceMethod yX3_setOrNull, Cond.selects RX3 yX3_setOrNull yX3_setOrNull, Cond.code yX3_setOrNull cX3_setOrNull 2 (some (.object "PuddingstoneLine$GrainSet")), Cond.fieldLink RX3 11 "PuddingstoneLine" "sets" "[LPuddingstoneLine$GrainSet;", Cond.methodLink RX3 175 yX0_length, Cond.instanceMethod yX0_length]
def wsL_mean_r2 : List Cond := [Cond.selects RX0 yX0_length yX0_length, Cond.initialized RX0, Cond.code yX0_length cX0_length 3 (some .int), Cond.methodLink RX0 21 yX0_holds, Cond.instanceMethod yX0_holds, Cond.selects RX0 yX0_holds yX0_holds, Cond.code yX0_holds cX0_holds 2 (some .boolean), Cond.fieldLink RX0 9 "PuddingstoneLine$GrainSet" "grains" "[Z", Cond.methodLink RX3 171 yX3_areaOver, Cond.static yX3_areaOver, Cond.code yX3_areaOver cX3_areaOver 4 (some .int), Cond.methodLink RX3 65 yX0_holds, Cond.methodLink RX3 141 yX2_at, Cond.instanceMethod yX2_at, Cond.selects RX2 yX2_at yX2_at, Cond.initialized RX2, Cond.code yX2_at cX2_at 2 (some .int), Cond.fieldLink RX2 9 "PuddingstoneLine$StepFunction" "values" "[I"]
def wsL_mean : List Cond := .codeWith yL_mean cL_mean 5 (some .int) [(0, 9, 12, 13)] :: ((wsL_mean_r1 ++ wsL_mean_r2) ++ wsX30 ++ wsX00 ++ wsX20 ++ (vx_atS RX3 119 "java/lang/IndexOutOfBoundsException" ["java/lang/RuntimeException", "java/lang/Exception"]).filter goodWord)
def wsL_thicker_r1 : List Cond := [Cond.classLink RL 15 "java/lang/IllegalArgumentException", Cond.methodLink RL 80 yX3_thicker, Cond.instanceMethod yX3_thicker, Cond.selects RX3 yX3_thicker yX3_thicker, Cond.initialized RX3, Cond.code yX3_thicker cX3_thicker 3 (some .int), Cond.methodLink RX3 161 yX3_checkFamily, Cond.static yX3_checkFamily, Cond.code yX3_checkFamily cX3_checkFamily 1 none, Cond.classLink RX3 93 "java/lang/IllegalArgumentException", Cond.initialized "java/lang/IllegalArgumentException", Cond.methodLink RX3 178 yX3_countThicker, Cond.instanceMethod yX3_countThicker, Cond.selects RX3 yX3_countThicker yX3_countThicker, Cond.code yX3_countThicker cX3_countThicker 5 (some .int), Cond.methodLink RX3 164 yX3_thickness, Cond.instanceMethod yX3_thickness, Cond.selects RX3 yX3_thickness yX3_thickness, Cond.code yX3_thickness cX3_thickness 6 (some .int), Cond.methodLink RX3 308 yX3_memberOrNull, Cond.instanceMethod yX3_memberOrNull, Cond.selects RX3 yX3_memberOrNull yX3_memberOrNull, Cond.code yX3_memberOrNull cX3_memberOrNull 3 (some (.object "PuddingstoneLine$GrainSet")), Cond.methodLink RX3 211 yX3_setOrNull]
def wsL_thicker_r2 : List Cond := [Cond.instanceMethod yX3_setOrNull, Cond.selects RX3 yX3_setOrNull yX3_setOrNull, Cond.code yX3_setOrNull cX3_setOrNull 2 (some (.object "PuddingstoneLine$GrainSet")), Cond.fieldLink RX3 11 "PuddingstoneLine" "sets" "[LPuddingstoneLine$GrainSet;", Cond.methodLink RX3 65 yX0_holds, Cond.instanceMethod yX0_holds, Cond.selects RX0 yX0_holds yX0_holds, Cond.initialized RX0, Cond.code yX0_holds cX0_holds 2 (some .boolean), Cond.fieldLink RX0 9 "PuddingstoneLine$GrainSet" "grains" "[Z"]
def wsL_thicker : List Cond := .codeWith yL_thicker cL_thicker 5 (some .int) [(0, 10, 13, 15)] :: ((wsL_thicker_r1 ++ wsL_thicker_r2) ++ wsX30 ++ wsX00 ++ (vx_atS RX3 97 "java/lang/IllegalArgumentException" ["java/lang/RuntimeException", "java/lang/Exception"]).filter goodWord)
def wsL_cover_r1 : List Cond := [Cond.classLink RL 13 "java/lang/IndexOutOfBoundsException", Cond.classLink RL 15 "java/lang/IllegalArgumentException", Cond.methodLink RL 83 yX3_cover, Cond.instanceMethod yX3_cover, Cond.selects RX3 yX3_cover yX3_cover, Cond.initialized RX3, Cond.code yX3_cover cX3_cover 4 (some .int), Cond.methodLink RX3 42 yX3_setAt, Cond.instanceMethod yX3_setAt, Cond.selects RX3 yX3_setAt yX3_setAt, Cond.code yX3_setAt cX3_setAt 3 (some (.object "PuddingstoneLine$GrainSet")), Cond.classLink RX3 115 "java/lang/IndexOutOfBoundsException", Cond.initialized "java/lang/IndexOutOfBoundsException", Cond.methodLink RX3 211 yX3_setOrNull, Cond.instanceMethod yX3_setOrNull, Cond.selects RX3 yX3_setOrNull yX3_setOrNull, Cond.code yX3_setOrNull cX3_setOrNull 2 (some (.object "PuddingstoneLine$GrainSet")), Cond.fieldLink RX3 11 "PuddingstoneLine" "sets" "[LPuddingstoneLine$GrainSet;", Cond.methodLink RX3 161 yX3_checkFamily, Cond.static yX3_checkFamily, Cond.code yX3_checkFamily cX3_checkFamily 1 none, Cond.classLink RX3 93 "java/lang/IllegalArgumentException", Cond.initialized "java/lang/IllegalArgumentException", Cond.methodLink RX3 181 yX3_takeCover]
def wsL_cover_r2 : List Cond := [Cond.instanceMethod yX3_takeCover, Cond.selects RX3 yX3_takeCover yX3_takeCover, Cond.code yX3_takeCover cX3_takeCover 8 (some .int), Cond.fieldLink RX3 38 "PuddingstoneLine" "coverSets" "[I", Cond.methodLink RX3 65 yX0_holds, Cond.instanceMethod yX0_holds, Cond.selects RX0 yX0_holds yX0_holds, Cond.initialized RX0, Cond.code yX0_holds cX0_holds 2 (some .boolean), Cond.fieldLink RX0 9 "PuddingstoneLine$GrainSet" "grains" "[Z", Cond.methodLink RX3 312 yX3_farthestFrom, Cond.instanceMethod yX3_farthestFrom, Cond.selects RX3 yX3_farthestFrom yX3_farthestFrom, Cond.code yX3_farthestFrom cX3_farthestFrom 7 (some .int), Cond.methodLink RX3 308 yX3_memberOrNull, Cond.instanceMethod yX3_memberOrNull, Cond.selects RX3 yX3_memberOrNull yX3_memberOrNull, Cond.code yX3_memberOrNull cX3_memberOrNull 3 (some (.object "PuddingstoneLine$GrainSet")), Cond.methodLink RX3 315 yX0_lastOfRun, Cond.instanceMethod yX0_lastOfRun, Cond.selects RX0 yX0_lastOfRun yX0_lastOfRun, Cond.code yX0_lastOfRun cX0_lastOfRun 3 (some .int), Cond.methodLink RX0 21 yX0_holds]
def wsL_cover : List Cond := .codeWith yL_cover cL_cover 5 (some .int) [(0, 10, 13, 13), (0, 10, 17, 15)] :: ((wsL_cover_r1 ++ wsL_cover_r2) ++ wsX30 ++ wsX00 ++ (vx_atS RX3 119 "java/lang/IndexOutOfBoundsException" ["java/lang/RuntimeException", "java/lang/Exception"]).filter goodWord ++ (vx_atS RX3 97 "java/lang/IllegalArgumentException" ["java/lang/RuntimeException", "java/lang/Exception"]).filter goodWord)
def wsL_covers_r1 : List Cond := [Cond.classLink RL 13 "java/lang/IndexOutOfBoundsException", Cond.classLink RL 15 "java/lang/IllegalArgumentException", Cond.methodLink RL 86 yX3_covers, Cond.instanceMethod yX3_covers, Cond.selects RX3 yX3_covers yX3_covers, Cond.initialized RX3, Cond.code yX3_covers cX3_covers 6 (some .int), Cond.classLink RX3 115 "java/lang/IndexOutOfBoundsException", Cond.initialized "java/lang/IndexOutOfBoundsException", Cond.fieldLink RX3 38 "PuddingstoneLine" "coverSets" "[I", Cond.methodLink RX3 42 yX3_setAt, Cond.instanceMethod yX3_setAt, Cond.selects RX3 yX3_setAt yX3_setAt, Cond.code yX3_setAt cX3_setAt 3 (some (.object "PuddingstoneLine$GrainSet")), Cond.methodLink RX3 211 yX3_setOrNull, Cond.instanceMethod yX3_setOrNull, Cond.selects RX3 yX3_setOrNull yX3_setOrNull, Cond.code yX3_setOrNull cX3_setOrNull 2 (some (.object "PuddingstoneLine$GrainSet")), Cond.fieldLink RX3 11 "PuddingstoneLine" "sets" "[LPuddingstoneLine$GrainSet;", Cond.methodLink RX3 161 yX3_checkFamily, Cond.static yX3_checkFamily, Cond.code yX3_checkFamily cX3_checkFamily 1 none, Cond.classLink RX3 93 "java/lang/IllegalArgumentException", Cond.initialized "java/lang/IllegalArgumentException"]
def wsL_covers_r2 : List Cond := [Cond.methodLink RX3 181 yX3_takeCover, Cond.instanceMethod yX3_takeCover, Cond.selects RX3 yX3_takeCover yX3_takeCover, Cond.code yX3_takeCover cX3_takeCover 8 (some .int), Cond.methodLink RX3 65 yX0_holds, Cond.instanceMethod yX0_holds, Cond.selects RX0 yX0_holds yX0_holds, Cond.initialized RX0, Cond.code yX0_holds cX0_holds 2 (some .boolean), Cond.fieldLink RX0 9 "PuddingstoneLine$GrainSet" "grains" "[Z", Cond.methodLink RX3 312 yX3_farthestFrom, Cond.instanceMethod yX3_farthestFrom, Cond.selects RX3 yX3_farthestFrom yX3_farthestFrom, Cond.code yX3_farthestFrom cX3_farthestFrom 7 (some .int), Cond.methodLink RX3 308 yX3_memberOrNull, Cond.instanceMethod yX3_memberOrNull, Cond.selects RX3 yX3_memberOrNull yX3_memberOrNull, Cond.code yX3_memberOrNull cX3_memberOrNull 3 (some (.object "PuddingstoneLine$GrainSet")), Cond.methodLink RX3 315 yX0_lastOfRun, Cond.instanceMethod yX0_lastOfRun, Cond.selects RX0 yX0_lastOfRun yX0_lastOfRun, Cond.code yX0_lastOfRun cX0_lastOfRun 3 (some .int), Cond.methodLink RX0 21 yX0_holds]
def wsL_covers : List Cond := .codeWith yL_covers cL_covers 6 (some .int) [(0, 12, 15, 13), (0, 12, 19, 15)] :: ((wsL_covers_r1 ++ wsL_covers_r2) ++ wsX30 ++ wsX00 ++ (vx_atS RX3 119 "java/lang/IndexOutOfBoundsException" ["java/lang/RuntimeException", "java/lang/Exception"]).filter goodWord ++ (vx_atS RX3 97 "java/lang/IllegalArgumentException" ["java/lang/RuntimeException", "java/lang/Exception"]).filter goodWord)
def wsL_apart_r1 : List Cond := [Cond.classLink RL 15 "java/lang/IllegalArgumentException", Cond.methodLink RL 89 yX3_apart, Cond.instanceMethod yX3_apart, Cond.selects RX3 yX3_apart yX3_apart, Cond.initialized RX3, Cond.code yX3_apart cX3_apart 2 (some .int), Cond.methodLink RX3 161 yX3_checkFamily, Cond.static yX3_checkFamily, Cond.code yX3_checkFamily cX3_checkFamily 1 none, Cond.classLink RX3 93 "java/lang/IllegalArgumentException", Cond.initialized "java/lang/IllegalArgumentException", Cond.methodLink RX3 187 yX3_countPins, Cond.instanceMethod yX3_countPins, Cond.selects RX3 yX3_countPins yX3_countPins, Cond.code yX3_countPins cX3_countPins 5 (some .int), Cond.methodLink RX3 318 yX3_endsUnpinned, Cond.instanceMethod yX3_endsUnpinned, Cond.selects RX3 yX3_endsUnpinned yX3_endsUnpinned, Cond.code yX3_endsUnpinned cX3_endsUnpinned 6 (some .boolean), Cond.methodLink RX3 308 yX3_memberOrNull, Cond.instanceMethod yX3_memberOrNull, Cond.selects RX3 yX3_memberOrNull yX3_memberOrNull, Cond.code yX3_memberOrNull cX3_memberOrNull 3 (some (.object "PuddingstoneLine$GrainSet")), Cond.methodLink RX3 211 yX3_setOrNull]
def wsL_apart_r2 : List Cond := [Cond.instanceMethod yX3_setOrNull, Cond.selects RX3 yX3_setOrNull yX3_setOrNull, Cond.code yX3_setOrNull cX3_setOrNull 2 (some (.object "PuddingstoneLine$GrainSet")), Cond.fieldLink RX3 11 "PuddingstoneLine" "sets" "[LPuddingstoneLine$GrainSet;", Cond.methodLink RX3 65 yX0_holds, Cond.instanceMethod yX0_holds, Cond.selects RX0 yX0_holds yX0_holds, Cond.initialized RX0, Cond.code yX0_holds cX0_holds 2 (some .boolean), Cond.fieldLink RX0 9 "PuddingstoneLine$GrainSet" "grains" "[Z", Cond.methodLink RX3 322 yX0_firstOfRun, Cond.instanceMethod yX0_firstOfRun, Cond.selects RX0 yX0_firstOfRun yX0_firstOfRun, Cond.code yX0_firstOfRun cX0_firstOfRun 3 (some .int), Cond.methodLink RX0 21 yX0_holds]
def wsL_apart : List Cond := .codeWith yL_apart cL_apart 4 (some .int) [(0, 9, 12, 15)] :: ((wsL_apart_r1 ++ wsL_apart_r2) ++ wsX30 ++ wsX00 ++ (vx_atS RX3 97 "java/lang/IllegalArgumentException" ["java/lang/RuntimeException", "java/lang/Exception"]).filter goodWord)
def wsL_pins_r1 : List Cond := [Cond.classLink RL 15 "java/lang/IllegalArgumentException", Cond.methodLink RL 93 yX3_pins, Cond.instanceMethod yX3_pins, Cond.selects RX3 yX3_pins yX3_pins, Cond.initialized RX3, Cond.code yX3_pins cX3_pins 2 (some .int), Cond.methodLink RX3 161 yX3_checkFamily, Cond.static yX3_checkFamily, Cond.code yX3_checkFamily cX3_checkFamily 1 none, Cond.classLink RX3 93 "java/lang/IllegalArgumentException", Cond.initialized "java/lang/IllegalArgumentException", Cond.methodLink RX3 187 yX3_countPins, Cond.instanceMethod yX3_countPins, Cond.selects RX3 yX3_countPins yX3_countPins, Cond.code yX3_countPins cX3_countPins 5 (some .int), Cond.methodLink RX3 318 yX3_endsUnpinned, Cond.instanceMethod yX3_endsUnpinned, Cond.selects RX3 yX3_endsUnpinned yX3_endsUnpinned, Cond.code yX3_endsUnpinned cX3_endsUnpinned 6 (some .boolean), Cond.methodLink RX3 308 yX3_memberOrNull, Cond.instanceMethod yX3_memberOrNull, Cond.selects RX3 yX3_memberOrNull yX3_memberOrNull, Cond.code yX3_memberOrNull cX3_memberOrNull 3 (some (.object "PuddingstoneLine$GrainSet")), Cond.methodLink RX3 211 yX3_setOrNull]
def wsL_pins_r2 : List Cond := [Cond.instanceMethod yX3_setOrNull, Cond.selects RX3 yX3_setOrNull yX3_setOrNull, Cond.code yX3_setOrNull cX3_setOrNull 2 (some (.object "PuddingstoneLine$GrainSet")), Cond.fieldLink RX3 11 "PuddingstoneLine" "sets" "[LPuddingstoneLine$GrainSet;", Cond.methodLink RX3 65 yX0_holds, Cond.instanceMethod yX0_holds, Cond.selects RX0 yX0_holds yX0_holds, Cond.initialized RX0, Cond.code yX0_holds cX0_holds 2 (some .boolean), Cond.fieldLink RX0 9 "PuddingstoneLine$GrainSet" "grains" "[Z", Cond.methodLink RX3 322 yX0_firstOfRun, Cond.instanceMethod yX0_firstOfRun, Cond.selects RX0 yX0_firstOfRun yX0_firstOfRun, Cond.code yX0_firstOfRun cX0_firstOfRun 3 (some .int), Cond.methodLink RX0 21 yX0_holds]
def wsL_pins : List Cond := .codeWith yL_pins cL_pins 4 (some .int) [(0, 9, 12, 15)] :: ((wsL_pins_r1 ++ wsL_pins_r2) ++ wsX30 ++ wsX00 ++ (vx_atS RX3 97 "java/lang/IllegalArgumentException" ["java/lang/RuntimeException", "java/lang/Exception"]).filter goodWord)
def wsL_meetWith_r1 : List Cond := [Cond.classLink RL 13 "java/lang/IndexOutOfBoundsException", Cond.classLink RL 15 "java/lang/IllegalArgumentException", Cond.methodLink RL 96 yX3_meetWith, Cond.instanceMethod yX3_meetWith, Cond.selects RX3 yX3_meetWith yX3_meetWith, Cond.initialized RX3, Cond.code yX3_meetWith cX3_meetWith 8 (some .int), Cond.methodLink RX3 42 yX3_setAt, Cond.instanceMethod yX3_setAt, Cond.selects RX3 yX3_setAt yX3_setAt, Cond.code yX3_setAt cX3_setAt 3 (some (.object "PuddingstoneLine$GrainSet")), Cond.classLink RX3 115 "java/lang/IndexOutOfBoundsException", Cond.initialized "java/lang/IndexOutOfBoundsException", Cond.methodLink RX3 211 yX3_setOrNull, Cond.instanceMethod yX3_setOrNull, Cond.selects RX3 yX3_setOrNull yX3_setOrNull, Cond.code yX3_setOrNull cX3_setOrNull 2 (some (.object "PuddingstoneLine$GrainSet")), Cond.fieldLink RX3 11 "PuddingstoneLine" "sets" "[LPuddingstoneLine$GrainSet;", Cond.methodLink RX3 85 yX3_checkMove, Cond.static yX3_checkMove, Cond.code yX3_checkMove cX3_checkMove 1 none, Cond.classLink RX3 93 "java/lang/IllegalArgumentException", Cond.initialized "java/lang/IllegalArgumentException", Cond.methodLink RX3 65 yX0_holds]
def wsL_meetWith_r2 : List Cond := [Cond.instanceMethod yX0_holds, Cond.selects RX0 yX0_holds yX0_holds, Cond.initialized RX0, Cond.code yX0_holds cX0_holds 2 (some .boolean), Cond.fieldLink RX0 9 "PuddingstoneLine$GrainSet" "grains" "[Z"]
def wsL_meetWith : List Cond := .codeWith yL_meetWith cL_meetWith 6 (some .int) [(0, 12, 15, 13), (0, 12, 19, 15)] :: ((wsL_meetWith_r1 ++ wsL_meetWith_r2) ++ wsX30 ++ wsX00 ++ (vx_atS RX3 119 "java/lang/IndexOutOfBoundsException" ["java/lang/RuntimeException", "java/lang/Exception"]).filter goodWord ++ (vx_atS RX3 97 "java/lang/IllegalArgumentException" ["java/lang/RuntimeException", "java/lang/Exception"]).filter goodWord)
def wsL_clear_r1 : List Cond := [Cond.classLink RL 13 "java/lang/IndexOutOfBoundsException", Cond.methodLink RL 99 yX3_clear, Cond.instanceMethod yX3_clear, Cond.selects RX3 yX3_clear yX3_clear, Cond.initialized RX3, Cond.code yX3_clear cX3_clear 6 (some .int), Cond.methodLink RX3 42 yX3_setAt, Cond.instanceMethod yX3_setAt, Cond.selects RX3 yX3_setAt yX3_setAt, Cond.code yX3_setAt cX3_setAt 3 (some (.object "PuddingstoneLine$GrainSet")), Cond.classLink RX3 115 "java/lang/IndexOutOfBoundsException", Cond.initialized "java/lang/IndexOutOfBoundsException", Cond.methodLink RX3 211 yX3_setOrNull, Cond.instanceMethod yX3_setOrNull, Cond.selects RX3 yX3_setOrNull yX3_setOrNull, Cond.code yX3_setOrNull cX3_setOrNull 2 (some (.object "PuddingstoneLine$GrainSet")), Cond.fieldLink RX3 11 "PuddingstoneLine" "sets" "[LPuddingstoneLine$GrainSet;", Cond.methodLink RX3 131 yX3_canLie, Cond.static yX3_canLie, Cond.code yX3_canLie cX3_canLie 5 (some .boolean), Cond.methodLink RX3 65 yX0_holds, Cond.instanceMethod yX0_holds, Cond.selects RX0 yX0_holds yX0_holds, Cond.initialized RX0]
def wsL_clear_r2 : List Cond := [Cond.code yX0_holds cX0_holds 2 (some .boolean), Cond.fieldLink RX0 9 "PuddingstoneLine$GrainSet" "grains" "[Z"]
def wsL_clear : List Cond := .codeWith yL_clear cL_clear 5 (some .int) [(0, 10, 13, 13)] :: ((wsL_clear_r1 ++ wsL_clear_r2) ++ wsX30 ++ wsX00 ++ (vx_atS RX3 119 "java/lang/IndexOutOfBoundsException" ["java/lang/RuntimeException", "java/lang/Exception"]).filter goodWord)
def wsL_best_r1 : List Cond := [Cond.classLink RL 13 "java/lang/IndexOutOfBoundsException", Cond.classLink RL 15 "java/lang/IllegalArgumentException", Cond.methodLink RL 102 yX3_best, Cond.instanceMethod yX3_best, Cond.selects RX3 yX3_best yX3_best, Cond.initialized RX3, Cond.code yX3_best cX3_best 8 (some .int), Cond.classLink RX3 93 "java/lang/IllegalArgumentException", Cond.initialized "java/lang/IllegalArgumentException", Cond.methodLink RX3 135 yX3_functionAt, Cond.instanceMethod yX3_functionAt, Cond.selects RX3 yX3_functionAt yX3_functionAt, Cond.code yX3_functionAt cX3_functionAt 3 (some (.object "PuddingstoneLine$StepFunction")), Cond.classLink RX3 115 "java/lang/IndexOutOfBoundsException", Cond.initialized "java/lang/IndexOutOfBoundsException", Cond.fieldLink RX3 17 "PuddingstoneLine" "functions" "[LPuddingstoneLine$StepFunction;", Cond.methodLink RX3 192 yX3_areaBetween, Cond.static yX3_areaBetween, Cond.code yX3_areaBetween cX3_areaBetween 5 (some .int), Cond.methodLink RX3 141 yX2_at, Cond.instanceMethod yX2_at, Cond.selects RX2 yX2_at yX2_at, Cond.initialized RX2, Cond.code yX2_at cX2_at 2 (some .int)]
def wsL_best_r2 : List Cond := [Cond.fieldLink RX2 9 "PuddingstoneLine$StepFunction" "values" "[I"]
def wsL_best : List Cond := .codeWith yL_best cL_best 5 (some .int) [(0, 10, 13, 13), (0, 10, 17, 15)] :: ((wsL_best_r1 ++ wsL_best_r2) ++ wsX30 ++ wsX20 ++ (vx_atS RX3 97 "java/lang/IllegalArgumentException" ["java/lang/RuntimeException", "java/lang/Exception"]).filter goodWord ++ (vx_atS RX3 119 "java/lang/IndexOutOfBoundsException" ["java/lang/RuntimeException", "java/lang/Exception"]).filter goodWord)
def wsL_saves_r1 : List Cond := [Cond.classLink RL 13 "java/lang/IndexOutOfBoundsException", Cond.classLink RL 15 "java/lang/IllegalArgumentException", Cond.methodLink RL 105 yX3_saves, Cond.instanceMethod yX3_saves, Cond.selects RX3 yX3_saves yX3_saves, Cond.initialized RX3, Cond.code yX3_saves cX3_saves 7 (some .int), Cond.methodLink RX3 42 yX3_setAt, Cond.instanceMethod yX3_setAt, Cond.selects RX3 yX3_setAt yX3_setAt, Cond.code yX3_setAt cX3_setAt 3 (some (.object "PuddingstoneLine$GrainSet")), Cond.classLink RX3 115 "java/lang/IndexOutOfBoundsException", Cond.initialized "java/lang/IndexOutOfBoundsException", Cond.methodLink RX3 211 yX3_setOrNull, Cond.instanceMethod yX3_setOrNull, Cond.selects RX3 yX3_setOrNull yX3_setOrNull, Cond.code yX3_setOrNull cX3_setOrNull 2 (some (.object "PuddingstoneLine$GrainSet")), Cond.fieldLink RX3 11 "PuddingstoneLine" "sets" "[LPuddingstoneLine$GrainSet;", Cond.methodLink RX3 196 yX3_checkSet, Cond.static yX3_checkSet, Cond.code yX3_checkSet cX3_checkSet 1 none, Cond.methodLink RX3 161 yX3_checkFamily, Cond.static yX3_checkFamily, Cond.code yX3_checkFamily cX3_checkFamily 1 none]
def wsL_saves_r2 : List Cond := [Cond.classLink RX3 93 "java/lang/IllegalArgumentException", Cond.initialized "java/lang/IllegalArgumentException", Cond.methodLink RX3 181 yX3_takeCover, Cond.instanceMethod yX3_takeCover, Cond.selects RX3 yX3_takeCover yX3_takeCover, Cond.code yX3_takeCover cX3_takeCover 8 (some .int), Cond.fieldLink RX3 38 "PuddingstoneLine" "coverSets" "[I", Cond.methodLink RX3 65 yX0_holds, Cond.instanceMethod yX0_holds, Cond.selects RX0 yX0_holds yX0_holds, Cond.initialized RX0, Cond.code yX0_holds cX0_holds 2 (some .boolean), Cond.fieldLink RX0 9 "PuddingstoneLine$GrainSet" "grains" "[Z", Cond.methodLink RX3 312 yX3_farthestFrom, Cond.instanceMethod yX3_farthestFrom, Cond.selects RX3 yX3_farthestFrom yX3_farthestFrom, Cond.code yX3_farthestFrom cX3_farthestFrom 7 (some .int), Cond.methodLink RX3 308 yX3_memberOrNull, Cond.instanceMethod yX3_memberOrNull, Cond.selects RX3 yX3_memberOrNull yX3_memberOrNull, Cond.code yX3_memberOrNull cX3_memberOrNull 3 (some (.object "PuddingstoneLine$GrainSet")), Cond.methodLink RX3 315 yX0_lastOfRun, Cond.instanceMethod yX0_lastOfRun, Cond.selects RX0 yX0_lastOfRun yX0_lastOfRun]
def wsL_saves_r3 : List Cond := [Cond.code yX0_lastOfRun cX0_lastOfRun 3 (some .int), Cond.methodLink RX0 21 yX0_holds]
def wsL_saves : List Cond := .codeWith yL_saves cL_saves 6 (some .int) [(0, 12, 15, 13), (0, 12, 19, 15)] :: ((wsL_saves_r1 ++ (wsL_saves_r2 ++ wsL_saves_r3)) ++ wsX30 ++ wsX00 ++ (vx_atS RX3 119 "java/lang/IndexOutOfBoundsException" ["java/lang/RuntimeException", "java/lang/Exception"]).filter goodWord ++ (vx_atS RX3 97 "java/lang/IllegalArgumentException" ["java/lang/RuntimeException", "java/lang/Exception"]).filter goodWord)
def wsL_law0_r1 : List Cond := [Cond.classLink RL 8 RX3, Cond.instantiable RX3 6, Cond.initialized RX3, Cond.classLink RL 109 RX4, Cond.instantiable RX4 3, Cond.initialized RX4, Cond.arrayClass .long, Cond.arrayClass .double, Cond.methodLink RL 108 yX3_init, Cond.instanceMethod yX3_init, Cond.code yX3_init cX3_init 2 none, Cond.methodLink RX3 3 objectInit, Cond.instanceMethod objectInit, Cond.code objectInit ⟨#[0xb1]⟩ 1 none, Cond.classLink RX3 9 RX0, Cond.fieldLink RX3 11 "PuddingstoneLine" "sets" "[LPuddingstoneLine$GrainSet;", Cond.classLink RX3 15 RX2, Cond.fieldLink RX3 17 "PuddingstoneLine" "functions" "[LPuddingstoneLine$StepFunction;", Cond.instantiable RX0 1, Cond.initialized RX0, Cond.fieldLink RX3 22 "PuddingstoneLine" "spareSet" "LPuddingstoneLine$GrainSet;", Cond.instantiable RX2 1, Cond.initialized RX2, Cond.fieldLink RX3 27 "PuddingstoneLine" "spareFunction" "LPuddingstoneLine$StepFunction;"]
def wsL_law0_r2 : List Cond := [Cond.classLink RX3 31 RX1, Cond.instantiable RX1 3, Cond.initialized RX1, Cond.fieldLink RX3 34 "PuddingstoneLine" "spanRow" "LPuddingstoneLine$SpanRow;", Cond.arrayClass .int, Cond.fieldLink RX3 38 "PuddingstoneLine" "coverSets" "[I", Cond.instanceMethod yX0_init, Cond.code yX0_init cX0_init 1 none, Cond.methodLink RX0 3 objectInit, Cond.arrayClass .boolean, Cond.fieldLink RX0 9 "PuddingstoneLine$GrainSet" "grains" "[Z", Cond.instanceMethod yX2_init, Cond.code yX2_init cX2_init 1 none, Cond.methodLink RX2 3 objectInit, Cond.fieldLink RX2 9 "PuddingstoneLine$StepFunction" "values" "[I", Cond.instanceMethod yX1_init, Cond.code yX1_init cX1_init 1 none, Cond.methodLink RX1 3 objectInit, Cond.fieldLink RX1 9 "PuddingstoneLine$SpanRow" "firsts" "[I", Cond.fieldLink RX1 15 "PuddingstoneLine$SpanRow" "lasts" "[I", Cond.fieldLink RX1 18 "PuddingstoneLine$SpanRow" "size" "I", Cond.methodLink RL 111 yX4_init, Cond.instanceMethod yX4_init, Cond.code yX4_init cX4_init 1 none]
def wsL_law0_r3 : List Cond := [Cond.methodLink RX4 1 objectInit, Cond.classLink RX4 9 "[[Z", Cond.fieldLink RX4 11 "PuddingstoneLineModel" "sets" "[[Z", Cond.classLink RX4 14 "[[I", Cond.fieldLink RX4 16 "PuddingstoneLineModel" "values" "[[I", Cond.methodLink RL 112 yL_span, Cond.static yL_span, Cond.initialized RL, Cond.codeWith yL_span cL_span 8 (some .int) [(0, 16, 19, 13), (0, 16, 23, 15)], Cond.classLink RL 13 "java/lang/IndexOutOfBoundsException", Cond.classLink RL 15 "java/lang/IllegalArgumentException", Cond.methodLink RL 7 yX3_span, Cond.instanceMethod yX3_span, Cond.selects RX3 yX3_span yX3_span, Cond.code yX3_span cX3_span 7 (some .int), Cond.methodLink RX3 42 yX3_setAt, Cond.instanceMethod yX3_setAt, Cond.selects RX3 yX3_setAt yX3_setAt, Cond.code yX3_setAt cX3_setAt 3 (some (.object "PuddingstoneLine$GrainSet")), Cond.classLink RX3 115 "java/lang/IndexOutOfBoundsException", Cond.initialized "java/lang/IndexOutOfBoundsException", Cond.methodLink RX3 211 yX3_setOrNull, Cond.instanceMethod yX3_setOrNull, Cond.selects RX3 yX3_setOrNull yX3_setOrNull]
def wsL_law0_r4 : List Cond := [Cond.code yX3_setOrNull cX3_setOrNull 2 (some (.object "PuddingstoneLine$GrainSet")), Cond.methodLink RX3 46 yX3_checkSpan, Cond.static yX3_checkSpan, Cond.code yX3_checkSpan cX3_checkSpan 3 none, Cond.classLink RX3 93 "java/lang/IllegalArgumentException", Cond.initialized "java/lang/IllegalArgumentException", Cond.methodLink RX3 61 yX3_checkChoice, Cond.static yX3_checkChoice, Cond.code yX3_checkChoice cX3_checkChoice 2 none, Cond.methodLink RX3 50 yX3_firstGrain, Cond.static yX3_firstGrain, Cond.code yX3_firstGrain cX3_firstGrain 3 (some .int), Cond.methodLink RX3 54 yX3_lastGrain, Cond.static yX3_lastGrain, Cond.code yX3_lastGrain cX3_lastGrain 3 (some .int), Cond.methodLink RX3 57 yX0_fill, Cond.instanceMethod yX0_fill, Cond.selects RX0 yX0_fill yX0_fill, Cond.code yX0_fill cX0_fill 6 (some .int), Cond.methodLink RX0 15 Lib.Math.max.name, Cond.static Lib.Math.max.name, Cond.initialized "java/lang/Math", Cond.code Lib.Math.max.name Lib.Math.max.code 2 (some .int), Cond.methodLink RX0 21 yX0_holds]
def wsL_law0_r5 : List Cond := [Cond.instanceMethod yX0_holds, Cond.selects RX0 yX0_holds yX0_holds, Cond.code yX0_holds cX0_holds 2 (some .boolean), Cond.methodLink RX0 25 yX0_write, Cond.instanceMethod yX0_write, Cond.selects RX0 yX0_write yX0_write, Cond.code yX0_write cX0_write 3 none, Cond.methodLink RL 117 yX4_span, Cond.instanceMethod yX4_span, Cond.selects RX4 yX4_span yX4_span, Cond.code yX4_span cX4_span 8 (some .int), Cond.fieldLink RX4 19 "PuddingstoneLineModel" "thrown" "I", Cond.methodLink RX4 47 yX4_isSet, Cond.static yX4_isSet, Cond.code yX4_isSet cX4_isSet 1 (some .boolean), Cond.methodLink RX4 23 yX4_isIn, Cond.static yX4_isIn, Cond.code yX4_isIn cX4_isIn 3 (some .boolean), Cond.methodLink RX4 51 yX4_no, Cond.instanceMethod yX4_no, Cond.selects RX4 yX4_no yX4_no, Cond.code yX4_no cX4_no 2 (some .int), Cond.methodLink RX4 55 yX4_isSpan, Cond.static yX4_isSpan]
def wsL_law0_r6 : List Cond := [Cond.code yX4_isSpan cX4_isSpan 3 (some .boolean), Cond.methodLink RX4 58 yX4_isWithin, Cond.static yX4_isWithin, Cond.code yX4_isWithin cX4_isWithin 6 (some .boolean), Cond.methodLink RL 118 yX4_thrown, Cond.instanceMethod yX4_thrown, Cond.selects RX4 yX4_thrown yX4_thrown, Cond.code yX4_thrown cX4_thrown 1 (some .int), Cond.methodLink RL 122 yL_join, Cond.static yL_join, Cond.codeWith yL_join cL_join 7 (some .int) [(0, 14, 17, 13), (0, 14, 21, 15)], Cond.methodLink RL 17 yX3_join, Cond.instanceMethod yX3_join, Cond.selects RX3 yX3_join yX3_join, Cond.code yX3_join cX3_join 9 (some .int), Cond.methodLink RX3 65 yX0_holds, Cond.methodLink RX3 69 yX3_isJoined, Cond.static yX3_isJoined, Cond.code yX3_isJoined cX3_isJoined 3 (some .boolean), Cond.methodLink RX3 73 yX0_write, Cond.methodLink RX3 77 yX0_count, Cond.instanceMethod yX0_count, Cond.selects RX0 yX0_count yX0_count, Cond.code yX0_count cX0_count 3 (some .int)]
def wsL_law0_r7 : List Cond := [Cond.methodLink RL 125 yX4_join, Cond.instanceMethod yX4_join, Cond.selects RX4 yX4_join yX4_join, Cond.code yX4_join cX4_join 9 (some .int), Cond.methodLink RX4 62 yX4_count, Cond.static yX4_count, Cond.code yX4_count cX4_count 6 (some .int), Cond.methodLink RL 126 yL_change, Cond.static yL_change, Cond.codeWith yL_change cL_change 5 (some .int) [(0, 10, 13, 13), (0, 10, 17, 15)], Cond.methodLink RL 21 yX3_change, Cond.instanceMethod yX3_change, Cond.selects RX3 yX3_change yX3_change, Cond.code yX3_change cX3_change 4 (some .int), Cond.methodLink RX3 81 yX3_changeSet, Cond.instanceMethod yX3_changeSet, Cond.selects RX3 yX3_changeSet yX3_changeSet, Cond.code yX3_changeSet cX3_changeSet 3 none, Cond.methodLink RX3 228 yX0_invert, Cond.instanceMethod yX0_invert, Cond.selects RX0 yX0_invert yX0_invert, Cond.code yX0_invert cX0_invert 2 none, Cond.methodLink RX3 231 yX0_dropEdgePoints, Cond.instanceMethod yX0_dropEdgePoints]
def wsL_law0_r8 : List Cond := [Cond.selects RX0 yX0_dropEdgePoints yX0_dropEdgePoints, Cond.code yX0_dropEdgePoints cX0_dropEdgePoints 4 none, Cond.methodLink RX3 234 yX0_addEdgePoints, Cond.instanceMethod yX0_addEdgePoints, Cond.selects RX0 yX0_addEdgePoints yX0_addEdgePoints, Cond.code yX0_addEdgePoints cX0_addEdgePoints 2 none, Cond.methodLink RX3 237 yX0_keepLonePoints, Cond.instanceMethod yX0_keepLonePoints, Cond.selects RX0 yX0_keepLonePoints yX0_keepLonePoints, Cond.code yX0_keepLonePoints cX0_keepLonePoints 2 none, Cond.methodLink RX3 240 yX0_mirror, Cond.instanceMethod yX0_mirror, Cond.selects RX0 yX0_mirror yX0_mirror, Cond.code yX0_mirror cX0_mirror 4 none, Cond.methodLink RX3 243 yX3_keepLongest, Cond.instanceMethod yX3_keepLongest, Cond.selects RX3 yX3_keepLongest yX3_keepLongest, Cond.code yX3_keepLongest cX3_keepLongest 3 none, Cond.methodLink RX3 108 yX1_readRuns, Cond.instanceMethod yX1_readRuns, Cond.selects RX1 yX1_readRuns yX1_readRuns, Cond.code yX1_readRuns cX1_readRuns 4 none, Cond.methodLink RX1 22 yX0_holds, Cond.methodLink RX1 28 yX1_begin]
def wsL_law0_r9 : List Cond := [Cond.instanceMethod yX1_begin, Cond.selects RX1 yX1_begin yX1_begin, Cond.code yX1_begin cX1_begin 2 none, Cond.methodLink RX1 32 yX1_extend, Cond.instanceMethod yX1_extend, Cond.selects RX1 yX1_extend yX1_extend, Cond.code yX1_extend cX1_extend 2 none, Cond.methodLink RX3 249 yX1_longest, Cond.instanceMethod yX1_longest, Cond.selects RX1 yX1_longest yX1_longest, Cond.code yX1_longest cX1_longest 3 (some .int), Cond.methodLink RX1 49 yX1_length, Cond.instanceMethod yX1_length, Cond.selects RX1 yX1_length yX1_length, Cond.code yX1_length cX1_length 2 (some .int), Cond.methodLink RX1 35 yX1_fact, Cond.instanceMethod yX1_fact, Cond.selects RX1 yX1_fact yX1_fact, Cond.code yX1_fact cX1_fact 3 (some .int), Cond.methodLink RX1 39 yX1_first, Cond.instanceMethod yX1_first, Cond.selects RX1 yX1_first yX1_first, Cond.code yX1_first cX1_first 2 (some .int), Cond.methodLink RX1 43 yX1_last]
def wsL_law0_r10 : List Cond := [Cond.instanceMethod yX1_last, Cond.selects RX1 yX1_last yX1_last, Cond.code yX1_last cX1_last 2 (some .int), Cond.static yX3_isPoint, Cond.code yX3_isPoint cX3_isPoint 1 (some .boolean), Cond.methodLink RX3 252 yX1_first, Cond.methodLink RX3 255 yX1_last, Cond.methodLink RX3 246 yX3_fillGaps, Cond.instanceMethod yX3_fillGaps, Cond.selects RX3 yX3_fillGaps yX3_fillGaps, Cond.code yX3_fillGaps cX3_fillGaps 2 none, Cond.methodLink RX3 112 yX1_size, Cond.instanceMethod yX1_size, Cond.selects RX1 yX1_size yX1_size, Cond.code yX1_size cX1_size 1 (some .int), Cond.methodLink RL 129 yX4_change, Cond.instanceMethod yX4_change, Cond.selects RX4 yX4_change yX4_change, Cond.code yX4_change cX4_change 3 (some .int), Cond.methodLink RX4 69 yX4_changed, Cond.static yX4_changed, Cond.code yX4_changed cX4_changed 9 (some (.array .boolean)), Cond.methodLink RX4 66 yX4_longest, Cond.static yX4_longest]
def wsL_law0_r11 : List Cond := [Cond.code yX4_longest cX4_longest 3 (some .int), Cond.methodLink RX4 35 Lib.Math.max.name, Cond.methodLink RX4 27 yX4_first, Cond.static yX4_first, Cond.code yX4_first cX4_first 4 (some .int), Cond.methodLink RX4 31 yX4_longOf, Cond.static yX4_longOf, Cond.code yX4_longOf cX4_longOf 2 (some .int), Cond.methodLink RX4 44 yX4_isAt, Cond.static yX4_isAt, Cond.code yX4_isAt cX4_isAt 2 (some .boolean), Cond.methodLink RX4 40 yX4_isAlone, Cond.static yX4_isAlone, Cond.code yX4_isAlone cX4_isAlone 2 (some .boolean), Cond.methodLink RL 130 yL_move, Cond.static yL_move, Cond.codeWith yL_move cL_move 5 (some .int) [(0, 10, 13, 13), (0, 10, 17, 15)], Cond.methodLink RL 25 yX3_move, Cond.instanceMethod yX3_move, Cond.selects RX3 yX3_move yX3_move, Cond.code yX3_move cX3_move 5 (some .int), Cond.methodLink RX3 85 yX3_checkMove, Cond.static yX3_checkMove, Cond.code yX3_checkMove cX3_checkMove 1 none]
def wsL_law0_r12 : List Cond := [Cond.methodLink RX3 89 yX0_copyFrom, Cond.instanceMethod yX0_copyFrom, Cond.selects RX0 yX0_copyFrom yX0_copyFrom, Cond.code yX0_copyFrom cX0_copyFrom 3 none, Cond.methodLink RL 132 yX4_move, Cond.instanceMethod yX4_move, Cond.selects RX4 yX4_move yX4_move, Cond.code yX4_move cX4_move 3 (some .int), Cond.methodLink RX4 73 yX4_moved, Cond.static yX4_moved, Cond.code yX4_moved cX4_moved 4 (some (.array .boolean)), Cond.methodLink RL 133 yL_stretch, Cond.static yL_stretch, Cond.codeWith yL_stretch cL_stretch 5 (some .int) [(0, 10, 13, 13), (0, 10, 17, 15)], Cond.methodLink RL 28 yX3_stretch, Cond.instanceMethod yX3_stretch, Cond.selects RX3 yX3_stretch yX3_stretch, Cond.code yX3_stretch cX3_stretch 5 (some .int), Cond.methodLink RX3 100 yX3_putStretched, Cond.static yX3_putStretched, Cond.code yX3_putStretched cX3_putStretched 3 none, Cond.methodLink RX3 258 yX3_isPoint, Cond.methodLink RL 135 yX4_stretch, Cond.instanceMethod yX4_stretch]
def wsL_law0_r13 : List Cond := [Cond.selects RX4 yX4_stretch yX4_stretch, Cond.code yX4_stretch cX4_stretch 5 (some .int), Cond.methodLink RL 136 yL_ofSet, Cond.static yL_ofSet, Cond.codeWith yL_ofSet cL_ofSet 5 (some .int) [(0, 10, 13, 13), (0, 10, 17, 15)], Cond.methodLink RL 31 yX3_ofSet, Cond.instanceMethod yX3_ofSet, Cond.selects RX3 yX3_ofSet yX3_ofSet, Cond.code yX3_ofSet cX3_ofSet 4 (some .int), Cond.methodLink RX3 104 yX3_factOfSet, Cond.instanceMethod yX3_factOfSet, Cond.selects RX3 yX3_factOfSet yX3_factOfSet, Cond.code yX3_factOfSet cX3_factOfSet 3 (some .int), Cond.methodLink RX3 175 yX0_length, Cond.instanceMethod yX0_length, Cond.selects RX0 yX0_length yX0_length, Cond.code yX0_length cX0_length 3 (some .int), Cond.methodLink RX3 261 yX1_lonePoints, Cond.instanceMethod yX1_lonePoints, Cond.selects RX1 yX1_lonePoints yX1_lonePoints, Cond.code yX1_lonePoints cX1_lonePoints 3 (some .int), Cond.methodLink RX3 264 yX1_length, Cond.methodLink RL 138 yX4_ofSet, Cond.instanceMethod yX4_ofSet]
def wsL_law0_r14 : List Cond := [Cond.selects RX4 yX4_ofSet yX4_ofSet, Cond.code yX4_ofSet cX4_ofSet 3 (some .int), Cond.methodLink RX4 88 yX4_ofNow, Cond.instanceMethod yX4_ofNow, Cond.selects RX4 yX4_ofNow yX4_ofNow, Cond.code yX4_ofNow cX4_ofNow 4 (some .int), Cond.methodLink RX4 76 yX4_spans, Cond.static yX4_spans, Cond.code yX4_spans cX4_spans 3 (some .int), Cond.methodLink RX4 79 yX4_longOf_, Cond.static yX4_longOf_, Cond.code yX4_longOf_ cX4_longOf_ 3 (some .int), Cond.methodLink RX4 81 yX4_alone, Cond.static yX4_alone, Cond.code yX4_alone cX4_alone 3 (some .int), Cond.methodLink RX4 84 yX4_others, Cond.static yX4_others, Cond.code yX4_others cX4_others 3 (some (.array .boolean)), Cond.methodLink RL 139 yL_ofSpan, Cond.static yL_ofSpan, Cond.codeWith yL_ofSpan cL_ofSpan 6 (some .int) [(0, 12, 15, 13), (0, 12, 19, 15)], Cond.methodLink RL 34 yX3_ofSpan, Cond.instanceMethod yX3_ofSpan, Cond.selects RX3 yX3_ofSpan yX3_ofSpan]
def wsL_law0_r15 : List Cond := [Cond.code yX3_ofSpan cX3_ofSpan 4 (some .int), Cond.methodLink RX3 120 yX1_fact, Cond.methodLink RL 142 yX4_ofSpan, Cond.instanceMethod yX4_ofSpan, Cond.selects RX4 yX4_ofSpan yX4_ofSpan, Cond.code yX4_ofSpan cX4_ofSpan 5 (some .int), Cond.methodLink RX4 91 yX4_begin, Cond.static yX4_begin, Cond.code yX4_begin cX4_begin 4 (some .int), Cond.methodLink RX4 95 yX4_spanNow, Cond.static yX4_spanNow, Cond.code yX4_spanNow cX4_spanNow 3 (some .int), Cond.methodLink RL 143 yL_has, Cond.static yL_has, Cond.codeWith yL_has cL_has 5 (some .int) [(0, 17, 20, 13)], Cond.methodLink RL 38 yX3_has, Cond.instanceMethod yX3_has, Cond.selects RX3 yX3_has yX3_has, Cond.code yX3_has cX3_has 4 (some .boolean), Cond.methodLink RX3 124 yX3_checkGrain, Cond.static yX3_checkGrain, Cond.code yX3_checkGrain cX3_checkGrain 1 none, Cond.methodLink RL 145 yX4_has, Cond.instanceMethod yX4_has]
def wsL_law0_r16 : List Cond := [Cond.selects RX4 yX4_has yX4_has, Cond.code yX4_has cX4_has 3 (some .boolean), Cond.methodLink RL 146 yL_far, Cond.static yL_far, Cond.codeWith yL_far cL_far 5 (some .int) [(0, 10, 13, 13)], Cond.methodLink RL 42 yX3_far, Cond.instanceMethod yX3_far, Cond.selects RX3 yX3_far yX3_far, Cond.code yX3_far cX3_far 5 (some .int), Cond.methodLink RL 148 yX4_far, Cond.instanceMethod yX4_far, Cond.selects RX4 yX4_far yX4_far, Cond.code yX4_far cX4_far 4 (some .int), Cond.methodLink RL 149 yL_beside, Cond.static yL_beside, Cond.codeWith yL_beside cL_beside 5 (some .int) [(0, 10, 13, 13)], Cond.methodLink RL 45 yX3_beside, Cond.instanceMethod yX3_beside, Cond.selects RX3 yX3_beside yX3_beside, Cond.code yX3_beside cX3_beside 7 (some .int), Cond.methodLink RX3 127 yX0_isInside, Cond.instanceMethod yX0_isInside, Cond.selects RX0 yX0_isInside yX0_isInside, Cond.code yX0_isInside cX0_isInside 3 (some .boolean)]
def wsL_law0_r17 : List Cond := [Cond.methodLink RX3 131 yX3_canLie, Cond.static yX3_canLie, Cond.code yX3_canLie cX3_canLie 5 (some .boolean), Cond.methodLink RL 151 yX4_beside, Cond.instanceMethod yX4_beside, Cond.selects RX4 yX4_beside yX4_beside, Cond.code yX4_beside cX4_beside 6 (some .int), Cond.methodLink RL 152 yL_raise, Cond.static yL_raise, Cond.codeWith yL_raise cL_raise 8 (some .int) [(0, 16, 19, 13), (0, 16, 23, 15)], Cond.methodLink RL 48 yX3_raise, Cond.instanceMethod yX3_raise, Cond.selects RX3 yX3_raise yX3_raise, Cond.code yX3_raise cX3_raise 9 (some .int), Cond.methodLink RX3 135 yX3_functionAt, Cond.instanceMethod yX3_functionAt, Cond.selects RX3 yX3_functionAt yX3_functionAt, Cond.code yX3_functionAt cX3_functionAt 3 (some (.object "PuddingstoneLine$StepFunction")), Cond.methodLink RX3 141 yX2_at, Cond.instanceMethod yX2_at, Cond.selects RX2 yX2_at yX2_at, Cond.code yX2_at cX2_at 2 (some .int), Cond.methodLink RX3 145 yX2_write, Cond.instanceMethod yX2_write]
def wsL_law0_r18 : List Cond := [Cond.selects RX2 yX2_write yX2_write, Cond.code yX2_write cX2_write 3 none, Cond.methodLink RX2 15 Lib.Math.min.name, Cond.static Lib.Math.min.name, Cond.code Lib.Math.min.name Lib.Math.min.code 2 (some .int), Cond.methodLink RX2 21 Lib.Math.max.name, Cond.methodLink RX3 147 yX2_steps, Cond.instanceMethod yX2_steps, Cond.selects RX2 yX2_steps yX2_steps, Cond.code yX2_steps cX2_steps 3 (some .int), Cond.methodLink RX2 24 yX2_at, Cond.methodLink RL 155 yX4_raise, Cond.instanceMethod yX4_raise, Cond.selects RX4 yX4_raise yX4_raise, Cond.code yX4_raise cX4_raise 8 (some .int), Cond.methodLink RX4 102 yX4_isFunction, Cond.static yX4_isFunction, Cond.code yX4_isFunction cX4_isFunction 1 (some .boolean), Cond.methodLink RX4 105 yX4_kept, Cond.static yX4_kept, Cond.code yX4_kept cX4_kept 1 (some .int), Cond.methodLink RX4 99 Lib.Math.min.name, Cond.methodLink RX4 108 yX4_steps, Cond.static yX4_steps]
def wsL_law0_r19 : List Cond := [Cond.code yX4_steps cX4_steps 3 (some .int), Cond.methodLink RL 156 yL_set, Cond.static yL_set, Cond.codeWith yL_set cL_set 6 (some .int) [(0, 12, 15, 13), (0, 12, 19, 15)], Cond.methodLink RL 52 yX3_set, Cond.instanceMethod yX3_set, Cond.selects RX3 yX3_set yX3_set, Cond.code yX3_set cX3_set 7 (some .int), Cond.methodLink RL 158 yX4_set, Cond.instanceMethod yX4_set, Cond.selects RX4 yX4_set yX4_set, Cond.code yX4_set cX4_set 5 (some .int), Cond.methodLink RL 159 yL_mix, Cond.static yL_mix, Cond.codeWith yL_mix cL_mix 7 (some .int) [(0, 14, 17, 13), (0, 14, 21, 15)], Cond.methodLink RL 55 yX3_mix, Cond.instanceMethod yX3_mix, Cond.selects RX3 yX3_mix yX3_mix, Cond.code yX3_mix cX3_mix 9 (some .int), Cond.methodLink RX3 152 yX3_mixed, Cond.static yX3_mixed, Cond.code yX3_mixed cX3_mixed 3 (some .int), Cond.methodLink RX3 266 Lib.Math.min.name, Cond.methodLink RX3 271 Lib.Math.max.name]
def wsL_law0_r20 : List Cond := [Cond.methodLink RL 161 yX4_mix, Cond.instanceMethod yX4_mix, Cond.selects RX4 yX4_mix yX4_mix, Cond.code yX4_mix cX4_mix 7 (some .int), Cond.methodLink RX4 112 yX4_mixed, Cond.static yX4_mixed, Cond.code yX4_mixed cX4_mixed 3 (some .int), Cond.methodLink RL 162 yL_turn, Cond.static yL_turn, Cond.codeWith yL_turn cL_turn 6 (some .int) [(0, 12, 15, 13), (0, 12, 19, 15)], Cond.methodLink RL 58 yX3_turn, Cond.instanceMethod yX3_turn, Cond.selects RX3 yX3_turn yX3_turn, Cond.code yX3_turn cX3_turn 5 (some .int), Cond.methodLink RX3 157 yX3_turnFunction, Cond.instanceMethod yX3_turnFunction, Cond.selects RX3 yX3_turnFunction yX3_turnFunction, Cond.code yX3_turnFunction cX3_turnFunction 4 none, Cond.methodLink RX3 274 yX2_copyFrom, Cond.instanceMethod yX2_copyFrom, Cond.selects RX2 yX2_copyFrom yX2_copyFrom, Cond.code yX2_copyFrom cX2_copyFrom 3 none, Cond.methodLink RX2 28 yX2_write, Cond.methodLink RX3 277 yX2_negate]
def wsL_law0_r21 : List Cond := [Cond.instanceMethod yX2_negate, Cond.selects RX2 yX2_negate yX2_negate, Cond.code yX2_negate cX2_negate 2 none, Cond.methodLink RX3 280 yX2_climbFromLeft, Cond.instanceMethod yX2_climbFromLeft, Cond.selects RX2 yX2_climbFromLeft yX2_climbFromLeft, Cond.code yX2_climbFromLeft cX2_climbFromLeft 2 none, Cond.methodLink RX3 283 yX2_climbFromRight, Cond.instanceMethod yX2_climbFromRight, Cond.selects RX2 yX2_climbFromRight yX2_climbFromRight, Cond.code yX2_climbFromRight cX2_climbFromRight 2 none, Cond.methodLink RX3 286 yX2_addUp, Cond.instanceMethod yX2_addUp, Cond.selects RX2 yX2_addUp yX2_addUp, Cond.code yX2_addUp cX2_addUp 3 none, Cond.methodLink RX3 289 yX2_mirrorOf, Cond.instanceMethod yX2_mirrorOf, Cond.selects RX2 yX2_mirrorOf yX2_mirrorOf, Cond.code yX2_mirrorOf cX2_mirrorOf 3 none, Cond.methodLink RX3 292 yX2_greatestNear, Cond.instanceMethod yX2_greatestNear, Cond.selects RX2 yX2_greatestNear yX2_greatestNear, Cond.code yX2_greatestNear cX2_greatestNear 4 none, Cond.methodLink RX2 36 yX2_greatest]
def wsL_law0_r22 : List Cond := [Cond.instanceMethod yX2_greatest, Cond.selects RX2 yX2_greatest yX2_greatest, Cond.code yX2_greatest cX2_greatest 5 (some .int), Cond.methodLink RX3 296 yX2_leastNear, Cond.instanceMethod yX2_leastNear, Cond.selects RX2 yX2_leastNear yX2_leastNear, Cond.code yX2_leastNear cX2_leastNear 4 none, Cond.methodLink RX2 39 yX2_least, Cond.instanceMethod yX2_least, Cond.selects RX2 yX2_least yX2_least, Cond.code yX2_least cX2_least 5 (some .int), Cond.methodLink RL 164 yX4_turn, Cond.instanceMethod yX4_turn, Cond.selects RX4 yX4_turn yX4_turn, Cond.code yX4_turn cX4_turn 8 (some .int), Cond.methodLink RX4 115 yX4_negated, Cond.static yX4_negated, Cond.code yX4_negated cX4_negated 3 (some (.array .int)), Cond.methodLink RX4 119 yX4_most, Cond.static yX4_most, Cond.code yX4_most cX4_most 5 (some .int), Cond.methodLink RX4 123 yX4_sumTo, Cond.static yX4_sumTo, Cond.code yX4_sumTo cX4_sumTo 4 (some .int)]
def wsL_law0_r23 : List Cond := [Cond.methodLink RL 165 yL_thick, Cond.static yL_thick, Cond.codeWith yL_thick cL_thick 5 (some .int) [(0, 10, 13, 13), (0, 10, 17, 15)], Cond.methodLink RL 61 yX3_thick, Cond.instanceMethod yX3_thick, Cond.selects RX3 yX3_thick yX3_thick, Cond.code yX3_thick cX3_thick 5 (some .int), Cond.methodLink RX3 161 yX3_checkFamily, Cond.static yX3_checkFamily, Cond.code yX3_checkFamily cX3_checkFamily 1 none, Cond.methodLink RX3 164 yX3_thickness, Cond.instanceMethod yX3_thickness, Cond.selects RX3 yX3_thickness yX3_thickness, Cond.code yX3_thickness cX3_thickness 6 (some .int), Cond.methodLink RX3 308 yX3_memberOrNull, Cond.instanceMethod yX3_memberOrNull, Cond.selects RX3 yX3_memberOrNull yX3_memberOrNull, Cond.code yX3_memberOrNull cX3_memberOrNull 3 (some (.object "PuddingstoneLine$GrainSet")), Cond.methodLink RL 167 yX4_thick, Cond.instanceMethod yX4_thick, Cond.selects RX4 yX4_thick yX4_thick, Cond.code yX4_thick cX4_thick 4 (some .int), Cond.methodLink RX4 127 yX4_thickness, Cond.instanceMethod yX4_thickness]
def wsL_law0_r24 : List Cond := [Cond.selects RX4 yX4_thickness yX4_thickness, Cond.code yX4_thickness cX4_thickness 5 (some .int), Cond.methodLink RL 168 yL_where, Cond.static yL_where, Cond.codeWith yL_where cL_where 7 (some .int) [(0, 14, 17, 13)], Cond.methodLink RL 64 yX3_where, Cond.instanceMethod yX3_where, Cond.selects RX3 yX3_where yX3_where, Cond.code yX3_where cX3_where 9 (some .int), Cond.methodLink RL 170 yX4_where, Cond.instanceMethod yX4_where, Cond.selects RX4 yX4_where yX4_where, Cond.code yX4_where cX4_where 6 (some .int), Cond.methodLink RL 171 yL_ofFunction, Cond.static yL_ofFunction, Cond.codeWith yL_ofFunction cL_ofFunction 5 (some .int) [(0, 10, 13, 13), (0, 10, 17, 15)], Cond.methodLink RL 67 yX3_ofFunction, Cond.instanceMethod yX3_ofFunction, Cond.selects RX3 yX3_ofFunction yX3_ofFunction, Cond.code yX3_ofFunction cX3_ofFunction 4 (some .int), Cond.methodLink RX3 167 yX3_factOfFunction, Cond.static yX3_factOfFunction, Cond.code yX3_factOfFunction cX3_factOfFunction 2 (some .int), Cond.methodLink RX3 299 yX2_least]
def wsL_law0_r25 : List Cond := [Cond.methodLink RX3 302 yX2_greatest, Cond.methodLink RX3 305 yX2_firstGreatest, Cond.instanceMethod yX2_firstGreatest, Cond.selects RX2 yX2_firstGreatest yX2_firstGreatest, Cond.code yX2_firstGreatest cX2_firstGreatest 3 (some .int), Cond.methodLink RX3 192 yX3_areaBetween, Cond.static yX3_areaBetween, Cond.code yX3_areaBetween cX3_areaBetween 5 (some .int), Cond.methodLink RL 173 yX4_ofFunction, Cond.instanceMethod yX4_ofFunction, Cond.selects RX4 yX4_ofFunction yX4_ofFunction, Cond.code yX4_ofFunction cX4_ofFunction 3 (some .int), Cond.methodLink RX4 133 yX4_functionNow, Cond.instanceMethod yX4_functionNow, Cond.selects RX4 yX4_functionNow yX4_functionNow, Cond.code yX4_functionNow cX4_functionNow 5 (some .int), Cond.methodLink RX4 130 yX4_areaOf, Cond.static yX4_areaOf, Cond.code yX4_areaOf cX4_areaOf 5 (some .int), Cond.methodLink RL 174 yL_value, Cond.static yL_value, Cond.codeWith yL_value cL_value 5 (some .int) [(0, 10, 13, 13)], Cond.methodLink RL 70 yX3_value, Cond.instanceMethod yX3_value]
def wsL_law0_r26 : List Cond := [Cond.selects RX3 yX3_value yX3_value, Cond.code yX3_value cX3_value 4 (some .int), Cond.methodLink RL 176 yX4_value, Cond.instanceMethod yX4_value, Cond.selects RX4 yX4_value yX4_value, Cond.code yX4_value cX4_value 3 (some .int), Cond.methodLink RL 177 yL_area, Cond.static yL_area, Cond.codeWith yL_area cL_area 5 (some .int) [(0, 10, 13, 13)], Cond.methodLink RL 73 yX3_area, Cond.instanceMethod yX3_area, Cond.selects RX3 yX3_area yX3_area, Cond.code yX3_area cX3_area 4 (some .int), Cond.methodLink RX3 171 yX3_areaOver, Cond.static yX3_areaOver, Cond.code yX3_areaOver cX3_areaOver 4 (some .int), Cond.methodLink RL 179 yX4_area, Cond.instanceMethod yX4_area, Cond.selects RX4 yX4_area yX4_area, Cond.code yX4_area cX4_area 3 (some .int), Cond.methodLink RX4 136 yX4_areaNow, Cond.instanceMethod yX4_areaNow, Cond.selects RX4 yX4_areaNow yX4_areaNow, Cond.code yX4_areaNow cX4_areaNow 5 (some .int)]
def wsL_law0_r27 : List Cond := [Cond.methodLink RL 180 yL_mean, Cond.static yL_mean, Cond.codeWith yL_mean cL_mean 5 (some .int) [(0, 9, 12, 13)], Cond.methodLink RL 76 yX3_mean, Cond.instanceMethod yX3_mean, Cond.selects RX3 yX3_mean yX3_mean, Cond.code yX3_mean cX3_mean 6 (some .double), Cond.methodLink RL 183 yX4_mean, Cond.instanceMethod yX4_mean, Cond.selects RX4 yX4_mean yX4_mean, Cond.code yX4_mean cX4_mean 3 (some .double), Cond.methodLink RL 184 yL_thicker, Cond.static yL_thicker, Cond.codeWith yL_thicker cL_thicker 5 (some .int) [(0, 10, 13, 15)], Cond.methodLink RL 80 yX3_thicker, Cond.instanceMethod yX3_thicker, Cond.selects RX3 yX3_thicker yX3_thicker, Cond.code yX3_thicker cX3_thicker 3 (some .int), Cond.methodLink RX3 178 yX3_countThicker, Cond.instanceMethod yX3_countThicker, Cond.selects RX3 yX3_countThicker yX3_countThicker, Cond.code yX3_countThicker cX3_countThicker 5 (some .int), Cond.methodLink RL 186 yX4_thicker, Cond.instanceMethod yX4_thicker]
def wsL_law0_r28 : List Cond := [Cond.selects RX4 yX4_thicker yX4_thicker, Cond.code yX4_thicker cX4_thicker 3 (some .int), Cond.methodLink RX4 139 yX4_thickerNow, Cond.instanceMethod yX4_thickerNow, Cond.selects RX4 yX4_thickerNow yX4_thickerNow, Cond.code yX4_thickerNow cX4_thickerNow 5 (some .int), Cond.methodLink RL 187 yL_cover, Cond.static yL_cover, Cond.codeWith yL_cover cL_cover 5 (some .int) [(0, 10, 13, 13), (0, 10, 17, 15)], Cond.methodLink RL 83 yX3_cover, Cond.instanceMethod yX3_cover, Cond.selects RX3 yX3_cover yX3_cover, Cond.code yX3_cover cX3_cover 4 (some .int), Cond.methodLink RX3 181 yX3_takeCover, Cond.instanceMethod yX3_takeCover, Cond.selects RX3 yX3_takeCover yX3_takeCover, Cond.code yX3_takeCover cX3_takeCover 8 (some .int), Cond.methodLink RX3 312 yX3_farthestFrom, Cond.instanceMethod yX3_farthestFrom, Cond.selects RX3 yX3_farthestFrom yX3_farthestFrom, Cond.code yX3_farthestFrom cX3_farthestFrom 7 (some .int), Cond.methodLink RX3 315 yX0_lastOfRun, Cond.instanceMethod yX0_lastOfRun, Cond.selects RX0 yX0_lastOfRun yX0_lastOfRun]
def wsL_law0_r29 : List Cond := [Cond.code yX0_lastOfRun cX0_lastOfRun 3 (some .int), Cond.methodLink RL 189 yX4_cover, Cond.instanceMethod yX4_cover, Cond.selects RX4 yX4_cover yX4_cover, Cond.code yX4_cover cX4_cover 3 (some .int), Cond.methodLink RX4 148 yX4_coverNow, Cond.instanceMethod yX4_coverNow, Cond.selects RX4 yX4_coverNow yX4_coverNow, Cond.code yX4_coverNow cX4_coverNow 11 (some (.array .int)), Cond.methodLink RX4 142 arraycopyName, Cond.native arraycopyName, Cond.static arraycopyName, Cond.initialized "java/lang/System", Cond.methodLink RX4 152 yX4_size, Cond.static yX4_size, Cond.code yX4_size cX4_size 1 (some .int), Cond.methodLink RL 190 yL_covers, Cond.static yL_covers, Cond.codeWith yL_covers cL_covers 6 (some .int) [(0, 12, 15, 13), (0, 12, 19, 15)], Cond.methodLink RL 86 yX3_covers, Cond.instanceMethod yX3_covers, Cond.selects RX3 yX3_covers yX3_covers, Cond.code yX3_covers cX3_covers 6 (some .int), Cond.methodLink RL 192 yX4_covers]
def wsL_law0_r30 : List Cond := [Cond.instanceMethod yX4_covers, Cond.selects RX4 yX4_covers yX4_covers, Cond.code yX4_covers cX4_covers 5 (some .int), Cond.methodLink RL 193 yL_apart, Cond.static yL_apart, Cond.codeWith yL_apart cL_apart 4 (some .int) [(0, 9, 12, 15)], Cond.methodLink RL 89 yX3_apart, Cond.instanceMethod yX3_apart, Cond.selects RX3 yX3_apart yX3_apart, Cond.code yX3_apart cX3_apart 2 (some .int), Cond.methodLink RX3 187 yX3_countPins, Cond.instanceMethod yX3_countPins, Cond.selects RX3 yX3_countPins yX3_countPins, Cond.code yX3_countPins cX3_countPins 5 (some .int), Cond.methodLink RX3 318 yX3_endsUnpinned, Cond.instanceMethod yX3_endsUnpinned, Cond.selects RX3 yX3_endsUnpinned yX3_endsUnpinned, Cond.code yX3_endsUnpinned cX3_endsUnpinned 6 (some .boolean), Cond.methodLink RX3 322 yX0_firstOfRun, Cond.instanceMethod yX0_firstOfRun, Cond.selects RX0 yX0_firstOfRun yX0_firstOfRun, Cond.code yX0_firstOfRun cX0_firstOfRun 3 (some .int), Cond.methodLink RL 196 yX4_apart, Cond.instanceMethod yX4_apart]
def wsL_law0_r31 : List Cond := [Cond.selects RX4 yX4_apart yX4_apart, Cond.code yX4_apart cX4_apart 2 (some .int), Cond.methodLink RX4 158 yX4_pinsNow, Cond.instanceMethod yX4_pinsNow, Cond.selects RX4 yX4_pinsNow yX4_pinsNow, Cond.code yX4_pinsNow cX4_pinsNow 7 (some .int), Cond.methodLink RX4 155 yX4_beginOf, Cond.instanceMethod yX4_beginOf, Cond.selects RX4 yX4_beginOf yX4_beginOf, Cond.code yX4_beginOf cX4_beginOf 4 (some .int), Cond.methodLink RL 197 yL_pins, Cond.static yL_pins, Cond.codeWith yL_pins cL_pins 4 (some .int) [(0, 9, 12, 15)], Cond.methodLink RL 93 yX3_pins, Cond.instanceMethod yX3_pins, Cond.selects RX3 yX3_pins yX3_pins, Cond.code yX3_pins cX3_pins 2 (some .int), Cond.methodLink RL 199 yX4_pins, Cond.instanceMethod yX4_pins, Cond.selects RX4 yX4_pins yX4_pins, Cond.code yX4_pins cX4_pins 2 (some .int), Cond.methodLink RL 200 yL_meetWith, Cond.static yL_meetWith, Cond.codeWith yL_meetWith cL_meetWith 6 (some .int) [(0, 12, 15, 13), (0, 12, 19, 15)]]
def wsL_law0_r32 : List Cond := [Cond.methodLink RL 96 yX3_meetWith, Cond.instanceMethod yX3_meetWith, Cond.selects RX3 yX3_meetWith yX3_meetWith, Cond.code yX3_meetWith cX3_meetWith 8 (some .int), Cond.methodLink RL 202 yX4_meetWith, Cond.instanceMethod yX4_meetWith, Cond.selects RX4 yX4_meetWith yX4_meetWith, Cond.code yX4_meetWith cX4_meetWith 4 (some .int), Cond.methodLink RX4 161 yX4_both, Cond.static yX4_both, Cond.code yX4_both cX4_both 4 (some (.array .boolean)), Cond.methodLink RL 203 yL_clear, Cond.static yL_clear, Cond.codeWith yL_clear cL_clear 5 (some .int) [(0, 10, 13, 13)], Cond.methodLink RL 99 yX3_clear, Cond.instanceMethod yX3_clear, Cond.selects RX3 yX3_clear yX3_clear, Cond.code yX3_clear cX3_clear 6 (some .int), Cond.methodLink RL 205 yX4_clear, Cond.instanceMethod yX4_clear, Cond.selects RX4 yX4_clear yX4_clear, Cond.code yX4_clear cX4_clear 4 (some .int), Cond.methodLink RX4 165 yX4_isClear, Cond.instanceMethod yX4_isClear]
def wsL_law0_r33 : List Cond := [Cond.selects RX4 yX4_isClear yX4_isClear, Cond.code yX4_isClear cX4_isClear 5 (some .boolean), Cond.methodLink RL 206 yL_best, Cond.static yL_best, Cond.codeWith yL_best cL_best 5 (some .int) [(0, 10, 13, 13), (0, 10, 17, 15)], Cond.methodLink RL 102 yX3_best, Cond.instanceMethod yX3_best, Cond.selects RX3 yX3_best yX3_best, Cond.code yX3_best cX3_best 8 (some .int), Cond.methodLink RL 208 yX4_best, Cond.instanceMethod yX4_best, Cond.selects RX4 yX4_best yX4_best, Cond.code yX4_best cX4_best 5 (some .int), Cond.methodLink RL 209 yL_saves, Cond.static yL_saves, Cond.codeWith yL_saves cL_saves 6 (some .int) [(0, 12, 15, 13), (0, 12, 19, 15)], Cond.methodLink RL 105 yX3_saves, Cond.instanceMethod yX3_saves, Cond.selects RX3 yX3_saves yX3_saves, Cond.code yX3_saves cX3_saves 7 (some .int), Cond.methodLink RX3 196 yX3_checkSet, Cond.static yX3_checkSet, Cond.code yX3_checkSet cX3_checkSet 1 none, Cond.methodLink RL 211 yX4_saves]
def wsL_law0_r34 : List Cond := [Cond.instanceMethod yX4_saves, Cond.selects RX4 yX4_saves yX4_saves, Cond.code yX4_saves cX4_saves 6 (some .int), Cond.methodLink RL 212 yX3_digest, Cond.instanceMethod yX3_digest, Cond.selects RX3 yX3_digest yX3_digest, Cond.code yX3_digest cX3_digest 4 (some .long), Cond.constantLong RX3 199 (965), Cond.constantLong RX3 209 (31), Cond.methodLink RX3 201 yX3_digestOfSet, Cond.instanceMethod yX3_digestOfSet, Cond.selects RX3 yX3_digestOfSet yX3_digestOfSet, Cond.code yX3_digestOfSet cX3_digestOfSet 8 (some .long), Cond.methodLink RX3 205 yX3_digestOfFunction, Cond.static yX3_digestOfFunction, Cond.code yX3_digestOfFunction cX3_digestOfFunction 6 (some .long), Cond.methodLink RL 216 yX4_digest, Cond.instanceMethod yX4_digest, Cond.selects RX4 yX4_digest yX4_digest, Cond.code yX4_digest cX4_digest 8 (some .long), Cond.constantLong RX4 168 (965), Cond.constantLong RX4 170 (31)]
def wsL_law0 : List Cond := (wsL_law0_r1 ++ (wsL_law0_r2 ++ (wsL_law0_r3 ++ (wsL_law0_r4 ++ (wsL_law0_r5 ++ (wsL_law0_r6 ++ (wsL_law0_r7 ++ (wsL_law0_r8 ++ (wsL_law0_r9 ++ (wsL_law0_r10 ++ (wsL_law0_r11 ++ (wsL_law0_r12 ++ (wsL_law0_r13 ++ (wsL_law0_r14 ++ (wsL_law0_r15 ++ (wsL_law0_r16 ++ (wsL_law0_r17 ++ (wsL_law0_r18 ++ (wsL_law0_r19 ++ (wsL_law0_r20 ++ (wsL_law0_r21 ++ (wsL_law0_r22 ++ (wsL_law0_r23 ++ (wsL_law0_r24 ++ (wsL_law0_r25 ++ (wsL_law0_r26 ++ (wsL_law0_r27 ++ (wsL_law0_r28 ++ (wsL_law0_r29 ++ (wsL_law0_r30 ++ (wsL_law0_r31 ++ (wsL_law0_r32 ++ (wsL_law0_r33 ++ wsL_law0_r34))))))))))))))))))))))))))))))))) ++ wsX30 ++ wsX40 ++ wsX00 ++ wsX20 ++ wsX10 ++ ([] : List Cond)
def wsL_law : List Cond := wsL_law0 ++ (vx_atS RX3 119 "java/lang/IndexOutOfBoundsException" ["java/lang/RuntimeException", "java/lang/Exception"]).filter goodWord ++ (vx_atS RX3 97 "java/lang/IllegalArgumentException" ["java/lang/RuntimeException", "java/lang/Exception"]).filter goodWord
abbrev vwCl : List vw_C := [(RX0, TX0, 1), (RX1, TX1, 3), (RX2, TX2, 1), (RX3, TX3, 6), (RX4, TX4, 3)]
end
section
theorem dX0_init_0 : decode cX0_init 0 = .ok (.aload_n 0, 1) := by decide +kernel
theorem dX0_init_1 : decode cX0_init 1 = .ok (.invokespecial 3, 3) := by decide +kernel
theorem dX0_init_4 : decode cX0_init 4 = .ok (.aload_n 0, 1) := by decide +kernel
theorem dX0_init_5 : decode cX0_init 5 = .ok (.sipush 201, 3) := by decide +kernel
theorem dX0_init_8 : decode cX0_init 8 = .ok (.newarray .boolean, 2) := by decide +kernel
theorem dX0_init_10 : decode cX0_init 10 = .ok (.putfield 9, 3) := by decide +kernel
theorem dX0_init_13 : decode cX0_init 13 = .ok (.return_, 1) := by decide +kernel
theorem dX0_holds_0 : decode cX0_holds 0 = .ok (.iload_n 1, 1) := by decide +kernel
theorem dX0_holds_1 : decode cX0_holds 1 = .ok (.ifCond .lt 25, 3) := by decide +kernel
theorem dX0_holds_4 : decode cX0_holds 4 = .ok (.iload_n 1, 1) := by decide +kernel
theorem dX0_holds_5 : decode cX0_holds 5 = .ok (.aload_n 0, 1) := by decide +kernel
theorem dX0_holds_6 : decode cX0_holds 6 = .ok (.getfield 9, 3) := by decide +kernel
theorem dX0_holds_9 : decode cX0_holds 9 = .ok (.arraylength, 1) := by decide +kernel
theorem dX0_holds_10 : decode cX0_holds 10 = .ok (.if_icmp .ge 16, 3) := by decide +kernel
theorem dX0_holds_13 : decode cX0_holds 13 = .ok (.aload_n 0, 1) := by decide +kernel
theorem dX0_holds_14 : decode cX0_holds 14 = .ok (.getfield 9, 3) := by decide +kernel
theorem dX0_holds_17 : decode cX0_holds 17 = .ok (.iload_n 1, 1) := by decide +kernel
theorem dX0_holds_18 : decode cX0_holds 18 = .ok (.baload, 1) := by decide +kernel
theorem dX0_holds_19 : decode cX0_holds 19 = .ok (.ifCond .eq 7, 3) := by decide +kernel
theorem dX0_holds_22 : decode cX0_holds 22 = .ok (.iconst 1, 1) := by decide +kernel
theorem dX0_holds_23 : decode cX0_holds 23 = .ok (.goto 4, 3) := by decide +kernel
theorem dX0_holds_26 : decode cX0_holds 26 = .ok (.iconst 0, 1) := by decide +kernel
theorem dX0_holds_27 : decode cX0_holds 27 = .ok (.ireturn, 1) := by decide +kernel
theorem dX0_write_0 : decode cX0_write 0 = .ok (.iload_n 1, 1) := by decide +kernel
theorem dX0_write_1 : decode cX0_write 1 = .ok (.ifCond .lt 19, 3) := by decide +kernel
theorem dX0_write_4 : decode cX0_write 4 = .ok (.iload_n 1, 1) := by decide +kernel
theorem dX0_write_5 : decode cX0_write 5 = .ok (.aload_n 0, 1) := by decide +kernel
theorem dX0_write_6 : decode cX0_write 6 = .ok (.getfield 9, 3) := by decide +kernel
theorem dX0_write_9 : decode cX0_write 9 = .ok (.arraylength, 1) := by decide +kernel
theorem dX0_write_10 : decode cX0_write 10 = .ok (.if_icmp .ge 10, 3) := by decide +kernel
theorem dX0_write_13 : decode cX0_write 13 = .ok (.aload_n 0, 1) := by decide +kernel
theorem dX0_write_14 : decode cX0_write 14 = .ok (.getfield 9, 3) := by decide +kernel
theorem dX0_write_17 : decode cX0_write 17 = .ok (.iload_n 1, 1) := by decide +kernel
theorem dX0_write_18 : decode cX0_write 18 = .ok (.iload_n 2, 1) := by decide +kernel
theorem dX0_write_19 : decode cX0_write 19 = .ok (.bastore, 1) := by decide +kernel
theorem dX0_write_20 : decode cX0_write 20 = .ok (.return_, 1) := by decide +kernel
set_option maxRecDepth 20000 in
theorem ggX0_fill_X0_holds : GoodIn wsX0_fill wsX0_holds := goodIn_r _ [9, 10, 15] (by decide +kernel) (by decide +kernel)
set_option maxRecDepth 20000 in
theorem gX0_fill_X0_holds : GoodIn wsX0_fill (wsV RX0 21 RX0 yX0_holds wsX0_holds) := goodIn_app (goodIn_of _ (by decide +kernel)) ggX0_fill_X0_holds
set_option maxRecDepth 20000 in
theorem ggX0_fill_X0_write : GoodIn wsX0_fill wsX0_write := goodIn_r _ [14, 10, 15] (by decide +kernel) (by decide +kernel)
set_option maxRecDepth 20000 in
theorem gX0_fill_X0_write : GoodIn wsX0_fill (wsV RX0 25 RX0 yX0_write wsX0_write) := goodIn_app (goodIn_of _ (by decide +kernel)) ggX0_fill_X0_write
theorem dX0_fill_0 : decode cX0_fill 0 = .ok (.iconst 0, 1) := by decide +kernel
theorem dX0_fill_1 : decode cX0_fill 1 = .ok (.istore 4, 2) := by decide +kernel
theorem dX0_fill_3 : decode cX0_fill 3 = .ok (.iload_n 1, 1) := by decide +kernel
theorem dX0_fill_4 : decode cX0_fill 4 = .ok (.iconst 0, 1) := by decide +kernel
theorem dX0_fill_5 : decode cX0_fill 5 = .ok (.invokestatic 15, 3) := by decide +kernel
theorem dX0_fill_8 : decode cX0_fill 8 = .ok (.istore 5, 2) := by decide +kernel
theorem dX0_fill_10 : decode cX0_fill 10 = .ok (.iload 5, 2) := by decide +kernel
theorem dX0_fill_12 : decode cX0_fill 12 = .ok (.iload_n 2, 1) := by decide +kernel
theorem dX0_fill_13 : decode cX0_fill 13 = .ok (.if_icmp .gt 37, 3) := by decide +kernel
theorem dX0_fill_16 : decode cX0_fill 16 = .ok (.iload 5, 2) := by decide +kernel
theorem dX0_fill_18 : decode cX0_fill 18 = .ok (.sipush 201, 3) := by decide +kernel
theorem dX0_fill_21 : decode cX0_fill 21 = .ok (.if_icmp .ge 29, 3) := by decide +kernel
theorem dX0_fill_24 : decode cX0_fill 24 = .ok (.aload_n 0, 1) := by decide +kernel
theorem dX0_fill_25 : decode cX0_fill 25 = .ok (.iload 5, 2) := by decide +kernel
theorem dX0_fill_27 : decode cX0_fill 27 = .ok (.invokevirtual 21, 3) := by decide +kernel
theorem dX0_fill_30 : decode cX0_fill 30 = .ok (.iload_n 3, 1) := by decide +kernel
theorem dX0_fill_31 : decode cX0_fill 31 = .ok (.if_icmp .eq 13, 3) := by decide +kernel
theorem dX0_fill_34 : decode cX0_fill 34 = .ok (.aload_n 0, 1) := by decide +kernel
theorem dX0_fill_35 : decode cX0_fill 35 = .ok (.iload 5, 2) := by decide +kernel
theorem dX0_fill_37 : decode cX0_fill 37 = .ok (.iload_n 3, 1) := by decide +kernel
theorem dX0_fill_38 : decode cX0_fill 38 = .ok (.invokevirtual 25, 3) := by decide +kernel
theorem dX0_fill_41 : decode cX0_fill 41 = .ok (.iinc 4 1, 3) := by decide +kernel
theorem dX0_fill_44 : decode cX0_fill 44 = .ok (.iinc 5 1, 3) := by decide +kernel
theorem dX0_fill_47 : decode cX0_fill 47 = .ok (.goto (-37), 3) := by decide +kernel
theorem dX0_fill_50 : decode cX0_fill 50 = .ok (.iload 4, 2) := by decide +kernel
theorem dX0_fill_52 : decode cX0_fill 52 = .ok (.ireturn, 1) := by decide +kernel
set_option maxRecDepth 20000 in
theorem ggX0_copyFrom_X0_holds : GoodIn wsX0_copyFrom wsX0_holds := goodIn_r _ [5, 6, 11] (by decide +kernel) (by decide +kernel)
set_option maxRecDepth 20000 in
theorem gX0_copyFrom_X0_holds : GoodIn wsX0_copyFrom (wsV RX0 21 RX0 yX0_holds wsX0_holds) := goodIn_app (goodIn_of _ (by decide +kernel)) ggX0_copyFrom_X0_holds
set_option maxRecDepth 20000 in
theorem ggX0_copyFrom_X0_write : GoodIn wsX0_copyFrom wsX0_write := goodIn_r _ [10, 6, 11] (by decide +kernel) (by decide +kernel)
set_option maxRecDepth 20000 in
theorem gX0_copyFrom_X0_write : GoodIn wsX0_copyFrom (wsV RX0 25 RX0 yX0_write wsX0_write) := goodIn_app (goodIn_of _ (by decide +kernel)) ggX0_copyFrom_X0_write
theorem dX0_copyFrom_0 : decode cX0_copyFrom 0 = .ok (.iconst 0, 1) := by decide +kernel
theorem dX0_copyFrom_1 : decode cX0_copyFrom 1 = .ok (.istore_n 2, 1) := by decide +kernel
theorem dX0_copyFrom_2 : decode cX0_copyFrom 2 = .ok (.iload_n 2, 1) := by decide +kernel
theorem dX0_copyFrom_3 : decode cX0_copyFrom 3 = .ok (.sipush 201, 3) := by decide +kernel
theorem dX0_copyFrom_6 : decode cX0_copyFrom 6 = .ok (.if_icmp .ge 19, 3) := by decide +kernel
theorem dX0_copyFrom_9 : decode cX0_copyFrom 9 = .ok (.aload_n 0, 1) := by decide +kernel
theorem dX0_copyFrom_10 : decode cX0_copyFrom 10 = .ok (.iload_n 2, 1) := by decide +kernel
theorem dX0_copyFrom_11 : decode cX0_copyFrom 11 = .ok (.aload_n 1, 1) := by decide +kernel
theorem dX0_copyFrom_12 : decode cX0_copyFrom 12 = .ok (.iload_n 2, 1) := by decide +kernel
theorem dX0_copyFrom_13 : decode cX0_copyFrom 13 = .ok (.invokevirtual 21, 3) := by decide +kernel
theorem dX0_copyFrom_16 : decode cX0_copyFrom 16 = .ok (.invokevirtual 25, 3) := by decide +kernel
theorem dX0_copyFrom_19 : decode cX0_copyFrom 19 = .ok (.iinc 2 1, 3) := by decide +kernel
theorem dX0_copyFrom_22 : decode cX0_copyFrom 22 = .ok (.goto (-20), 3) := by decide +kernel
theorem dX0_copyFrom_25 : decode cX0_copyFrom 25 = .ok (.return_, 1) := by decide +kernel
set_option maxRecDepth 20000 in
theorem ggX0_count_X0_holds : GoodIn wsX0_count wsX0_holds := goodIn_r _ [5, 6, 7] (by decide +kernel) (by decide +kernel)
set_option maxRecDepth 20000 in
theorem gX0_count_X0_holds : GoodIn wsX0_count (wsV RX0 21 RX0 yX0_holds wsX0_holds) := goodIn_app (goodIn_of _ (by decide +kernel)) ggX0_count_X0_holds
theorem dX0_count_0 : decode cX0_count 0 = .ok (.iconst 0, 1) := by decide +kernel
theorem dX0_count_1 : decode cX0_count 1 = .ok (.istore_n 1, 1) := by decide +kernel
theorem dX0_count_2 : decode cX0_count 2 = .ok (.iconst 0, 1) := by decide +kernel
theorem dX0_count_3 : decode cX0_count 3 = .ok (.istore_n 2, 1) := by decide +kernel
theorem dX0_count_4 : decode cX0_count 4 = .ok (.iload_n 2, 1) := by decide +kernel
theorem dX0_count_5 : decode cX0_count 5 = .ok (.sipush 201, 3) := by decide +kernel
theorem dX0_count_8 : decode cX0_count 8 = .ok (.if_icmp .ge 20, 3) := by decide +kernel
theorem dX0_count_11 : decode cX0_count 11 = .ok (.aload_n 0, 1) := by decide +kernel
theorem dX0_count_12 : decode cX0_count 12 = .ok (.iload_n 2, 1) := by decide +kernel
theorem dX0_count_13 : decode cX0_count 13 = .ok (.invokevirtual 21, 3) := by decide +kernel
theorem dX0_count_16 : decode cX0_count 16 = .ok (.ifCond .eq 6, 3) := by decide +kernel
theorem dX0_count_19 : decode cX0_count 19 = .ok (.iinc 1 1, 3) := by decide +kernel
theorem dX0_count_22 : decode cX0_count 22 = .ok (.iinc 2 1, 3) := by decide +kernel
theorem dX0_count_25 : decode cX0_count 25 = .ok (.goto (-21), 3) := by decide +kernel
theorem dX0_count_28 : decode cX0_count 28 = .ok (.iload_n 1, 1) := by decide +kernel
theorem dX0_count_29 : decode cX0_count 29 = .ok (.ireturn, 1) := by decide +kernel
set_option maxRecDepth 20000 in
theorem ggX0_length_X0_holds : GoodIn wsX0_length wsX0_holds := goodIn_r _ [5, 6, 7] (by decide +kernel) (by decide +kernel)
set_option maxRecDepth 20000 in
theorem gX0_length_X0_holds : GoodIn wsX0_length (wsV RX0 21 RX0 yX0_holds wsX0_holds) := goodIn_app (goodIn_of _ (by decide +kernel)) ggX0_length_X0_holds
theorem dX0_length_0 : decode cX0_length 0 = .ok (.iconst 0, 1) := by decide +kernel
theorem dX0_length_1 : decode cX0_length 1 = .ok (.istore_n 1, 1) := by decide +kernel
theorem dX0_length_2 : decode cX0_length 2 = .ok (.iconst 1, 1) := by decide +kernel
theorem dX0_length_3 : decode cX0_length 3 = .ok (.istore_n 2, 1) := by decide +kernel
theorem dX0_length_4 : decode cX0_length 4 = .ok (.iload_n 2, 1) := by decide +kernel
theorem dX0_length_5 : decode cX0_length 5 = .ok (.sipush 201, 3) := by decide +kernel
theorem dX0_length_8 : decode cX0_length 8 = .ok (.if_icmp .ge 20, 3) := by decide +kernel
theorem dX0_length_11 : decode cX0_length 11 = .ok (.aload_n 0, 1) := by decide +kernel
theorem dX0_length_12 : decode cX0_length 12 = .ok (.iload_n 2, 1) := by decide +kernel
theorem dX0_length_13 : decode cX0_length 13 = .ok (.invokevirtual 21, 3) := by decide +kernel
theorem dX0_length_16 : decode cX0_length 16 = .ok (.ifCond .eq 6, 3) := by decide +kernel
theorem dX0_length_19 : decode cX0_length 19 = .ok (.iinc 1 1, 3) := by decide +kernel
theorem dX0_length_22 : decode cX0_length 22 = .ok (.iinc 2 2, 3) := by decide +kernel
theorem dX0_length_25 : decode cX0_length 25 = .ok (.goto (-21), 3) := by decide +kernel
theorem dX0_length_28 : decode cX0_length 28 = .ok (.iload_n 1, 1) := by decide +kernel
theorem dX0_length_29 : decode cX0_length 29 = .ok (.ireturn, 1) := by decide +kernel
set_option maxRecDepth 20000 in
theorem ggX0_isInside_X0_holds : GoodIn wsX0_isInside wsX0_holds := goodIn_r _ [5, 6, 7] (by decide +kernel) (by decide +kernel)
set_option maxRecDepth 20000 in
theorem gX0_isInside_X0_holds : GoodIn wsX0_isInside (wsV RX0 21 RX0 yX0_holds wsX0_holds) := goodIn_app (goodIn_of _ (by decide +kernel)) ggX0_isInside_X0_holds
theorem dX0_isInside_0 : decode cX0_isInside 0 = .ok (.iconst 0, 1) := by decide +kernel
theorem dX0_isInside_1 : decode cX0_isInside 1 = .ok (.istore_n 2, 1) := by decide +kernel
theorem dX0_isInside_2 : decode cX0_isInside 2 = .ok (.iload_n 2, 1) := by decide +kernel
theorem dX0_isInside_3 : decode cX0_isInside 3 = .ok (.sipush 201, 3) := by decide +kernel
theorem dX0_isInside_6 : decode cX0_isInside 6 = .ok (.if_icmp .ge 27, 3) := by decide +kernel
theorem dX0_isInside_9 : decode cX0_isInside 9 = .ok (.aload_n 0, 1) := by decide +kernel
theorem dX0_isInside_10 : decode cX0_isInside 10 = .ok (.iload_n 2, 1) := by decide +kernel
theorem dX0_isInside_11 : decode cX0_isInside 11 = .ok (.invokevirtual 21, 3) := by decide +kernel
theorem dX0_isInside_14 : decode cX0_isInside 14 = .ok (.ifCond .eq 13, 3) := by decide +kernel
theorem dX0_isInside_17 : decode cX0_isInside 17 = .ok (.aload_n 1, 1) := by decide +kernel
theorem dX0_isInside_18 : decode cX0_isInside 18 = .ok (.iload_n 2, 1) := by decide +kernel
theorem dX0_isInside_19 : decode cX0_isInside 19 = .ok (.invokevirtual 21, 3) := by decide +kernel
theorem dX0_isInside_22 : decode cX0_isInside 22 = .ok (.ifCond .ne 5, 3) := by decide +kernel
theorem dX0_isInside_25 : decode cX0_isInside 25 = .ok (.iconst 0, 1) := by decide +kernel
theorem dX0_isInside_26 : decode cX0_isInside 26 = .ok (.ireturn, 1) := by decide +kernel
theorem dX0_isInside_27 : decode cX0_isInside 27 = .ok (.iinc 2 1, 3) := by decide +kernel
theorem dX0_isInside_30 : decode cX0_isInside 30 = .ok (.goto (-28), 3) := by decide +kernel
theorem dX0_isInside_33 : decode cX0_isInside 33 = .ok (.iconst 1, 1) := by decide +kernel
theorem dX0_isInside_34 : decode cX0_isInside 34 = .ok (.ireturn, 1) := by decide +kernel
set_option maxRecDepth 20000 in
theorem ggX0_firstOfRun_X0_holds : GoodIn wsX0_firstOfRun wsX0_holds := goodIn_r _ [5, 6, 7] (by decide +kernel) (by decide +kernel)
set_option maxRecDepth 20000 in
theorem gX0_firstOfRun_X0_holds : GoodIn wsX0_firstOfRun (wsV RX0 21 RX0 yX0_holds wsX0_holds) := goodIn_app (goodIn_of _ (by decide +kernel)) ggX0_firstOfRun_X0_holds
theorem dX0_firstOfRun_0 : decode cX0_firstOfRun 0 = .ok (.iload_n 1, 1) := by decide +kernel
theorem dX0_firstOfRun_1 : decode cX0_firstOfRun 1 = .ok (.istore_n 2, 1) := by decide +kernel
theorem dX0_firstOfRun_2 : decode cX0_firstOfRun 2 = .ok (.iload_n 2, 1) := by decide +kernel
theorem dX0_firstOfRun_3 : decode cX0_firstOfRun 3 = .ok (.ifCond .le 19, 3) := by decide +kernel
theorem dX0_firstOfRun_6 : decode cX0_firstOfRun 6 = .ok (.aload_n 0, 1) := by decide +kernel
theorem dX0_firstOfRun_7 : decode cX0_firstOfRun 7 = .ok (.iload_n 2, 1) := by decide +kernel
theorem dX0_firstOfRun_8 : decode cX0_firstOfRun 8 = .ok (.iconst 1, 1) := by decide +kernel
theorem dX0_firstOfRun_9 : decode cX0_firstOfRun 9 = .ok (.isub, 1) := by decide +kernel
theorem dX0_firstOfRun_10 : decode cX0_firstOfRun 10 = .ok (.invokevirtual 21, 3) := by decide +kernel
theorem dX0_firstOfRun_13 : decode cX0_firstOfRun 13 = .ok (.ifCond .eq 9, 3) := by decide +kernel
theorem dX0_firstOfRun_16 : decode cX0_firstOfRun 16 = .ok (.iinc 2 (-1), 3) := by decide +kernel
theorem dX0_firstOfRun_19 : decode cX0_firstOfRun 19 = .ok (.goto (-17), 3) := by decide +kernel
theorem dX0_firstOfRun_22 : decode cX0_firstOfRun 22 = .ok (.iload_n 2, 1) := by decide +kernel
theorem dX0_firstOfRun_23 : decode cX0_firstOfRun 23 = .ok (.ireturn, 1) := by decide +kernel
set_option maxRecDepth 20000 in
theorem ggX0_lastOfRun_X0_holds : GoodIn wsX0_lastOfRun wsX0_holds := goodIn_r _ [5, 6, 7] (by decide +kernel) (by decide +kernel)
set_option maxRecDepth 20000 in
theorem gX0_lastOfRun_X0_holds : GoodIn wsX0_lastOfRun (wsV RX0 21 RX0 yX0_holds wsX0_holds) := goodIn_app (goodIn_of _ (by decide +kernel)) ggX0_lastOfRun_X0_holds
theorem dX0_lastOfRun_0 : decode cX0_lastOfRun 0 = .ok (.iload_n 1, 1) := by decide +kernel
theorem dX0_lastOfRun_1 : decode cX0_lastOfRun 1 = .ok (.istore_n 2, 1) := by decide +kernel
theorem dX0_lastOfRun_2 : decode cX0_lastOfRun 2 = .ok (.iload_n 2, 1) := by decide +kernel
theorem dX0_lastOfRun_3 : decode cX0_lastOfRun 3 = .ok (.sipush 200, 3) := by decide +kernel
theorem dX0_lastOfRun_6 : decode cX0_lastOfRun 6 = .ok (.if_icmp .ge 19, 3) := by decide +kernel
theorem dX0_lastOfRun_9 : decode cX0_lastOfRun 9 = .ok (.aload_n 0, 1) := by decide +kernel
theorem dX0_lastOfRun_10 : decode cX0_lastOfRun 10 = .ok (.iload_n 2, 1) := by decide +kernel
theorem dX0_lastOfRun_11 : decode cX0_lastOfRun 11 = .ok (.iconst 1, 1) := by decide +kernel
theorem dX0_lastOfRun_12 : decode cX0_lastOfRun 12 = .ok (.iadd, 1) := by decide +kernel
theorem dX0_lastOfRun_13 : decode cX0_lastOfRun 13 = .ok (.invokevirtual 21, 3) := by decide +kernel
theorem dX0_lastOfRun_16 : decode cX0_lastOfRun 16 = .ok (.ifCond .eq 9, 3) := by decide +kernel
theorem dX0_lastOfRun_19 : decode cX0_lastOfRun 19 = .ok (.iinc 2 1, 3) := by decide +kernel
theorem dX0_lastOfRun_22 : decode cX0_lastOfRun 22 = .ok (.goto (-20), 3) := by decide +kernel
theorem dX0_lastOfRun_25 : decode cX0_lastOfRun 25 = .ok (.iload_n 2, 1) := by decide +kernel
theorem dX0_lastOfRun_26 : decode cX0_lastOfRun 26 = .ok (.ireturn, 1) := by decide +kernel
set_option maxRecDepth 20000 in
theorem ggX0_invert_X0_holds : GoodIn wsX0_invert wsX0_holds := goodIn_r _ [5, 6, 11] (by decide +kernel) (by decide +kernel)
set_option maxRecDepth 20000 in
theorem gX0_invert_X0_holds : GoodIn wsX0_invert (wsV RX0 21 RX0 yX0_holds wsX0_holds) := goodIn_app (goodIn_of _ (by decide +kernel)) ggX0_invert_X0_holds
set_option maxRecDepth 20000 in
theorem ggX0_invert_X0_write : GoodIn wsX0_invert wsX0_write := goodIn_r _ [10, 6, 11] (by decide +kernel) (by decide +kernel)
set_option maxRecDepth 20000 in
theorem gX0_invert_X0_write : GoodIn wsX0_invert (wsV RX0 25 RX0 yX0_write wsX0_write) := goodIn_app (goodIn_of _ (by decide +kernel)) ggX0_invert_X0_write
theorem dX0_invert_0 : decode cX0_invert 0 = .ok (.iconst 0, 1) := by decide +kernel
theorem dX0_invert_1 : decode cX0_invert 1 = .ok (.istore_n 1, 1) := by decide +kernel
theorem dX0_invert_2 : decode cX0_invert 2 = .ok (.iload_n 1, 1) := by decide +kernel
theorem dX0_invert_3 : decode cX0_invert 3 = .ok (.sipush 201, 3) := by decide +kernel
theorem dX0_invert_6 : decode cX0_invert 6 = .ok (.if_icmp .ge 27, 3) := by decide +kernel
theorem dX0_invert_9 : decode cX0_invert 9 = .ok (.aload_n 0, 1) := by decide +kernel
theorem dX0_invert_10 : decode cX0_invert 10 = .ok (.iload_n 1, 1) := by decide +kernel
theorem dX0_invert_11 : decode cX0_invert 11 = .ok (.aload_n 0, 1) := by decide +kernel
theorem dX0_invert_12 : decode cX0_invert 12 = .ok (.iload_n 1, 1) := by decide +kernel
theorem dX0_invert_13 : decode cX0_invert 13 = .ok (.invokevirtual 21, 3) := by decide +kernel
theorem dX0_invert_16 : decode cX0_invert 16 = .ok (.ifCond .ne 7, 3) := by decide +kernel
theorem dX0_invert_19 : decode cX0_invert 19 = .ok (.iconst 1, 1) := by decide +kernel
theorem dX0_invert_20 : decode cX0_invert 20 = .ok (.goto 4, 3) := by decide +kernel
theorem dX0_invert_23 : decode cX0_invert 23 = .ok (.iconst 0, 1) := by decide +kernel
theorem dX0_invert_24 : decode cX0_invert 24 = .ok (.invokevirtual 25, 3) := by decide +kernel
theorem dX0_invert_27 : decode cX0_invert 27 = .ok (.iinc 1 1, 3) := by decide +kernel
theorem dX0_invert_30 : decode cX0_invert 30 = .ok (.goto (-28), 3) := by decide +kernel
theorem dX0_invert_33 : decode cX0_invert 33 = .ok (.return_, 1) := by decide +kernel
set_option maxRecDepth 20000 in
theorem ggX0_dropEdgePoints_X0_holds : GoodIn wsX0_dropEdgePoints wsX0_holds := goodIn_r _ [5, 6, 11] (by decide +kernel) (by decide +kernel)
set_option maxRecDepth 20000 in
theorem gX0_dropEdgePoints_X0_holds : GoodIn wsX0_dropEdgePoints (wsV RX0 21 RX0 yX0_holds wsX0_holds) := goodIn_app (goodIn_of _ (by decide +kernel)) ggX0_dropEdgePoints_X0_holds
set_option maxRecDepth 20000 in
theorem ggX0_dropEdgePoints_X0_write : GoodIn wsX0_dropEdgePoints wsX0_write := goodIn_r _ [10, 6, 11] (by decide +kernel) (by decide +kernel)
set_option maxRecDepth 20000 in
theorem gX0_dropEdgePoints_X0_write : GoodIn wsX0_dropEdgePoints (wsV RX0 25 RX0 yX0_write wsX0_write) := goodIn_app (goodIn_of _ (by decide +kernel)) ggX0_dropEdgePoints_X0_write
theorem dX0_dropEdgePoints_0 : decode cX0_dropEdgePoints 0 = .ok (.iconst 0, 1) := by decide +kernel
theorem dX0_dropEdgePoints_1 : decode cX0_dropEdgePoints 1 = .ok (.istore_n 1, 1) := by decide +kernel
theorem dX0_dropEdgePoints_2 : decode cX0_dropEdgePoints 2 = .ok (.iload_n 1, 1) := by decide +kernel
theorem dX0_dropEdgePoints_3 : decode cX0_dropEdgePoints 3 = .ok (.sipush 201, 3) := by decide +kernel
theorem dX0_dropEdgePoints_6 : decode cX0_dropEdgePoints 6 = .ok (.if_icmp .ge 66, 3) := by decide +kernel
theorem dX0_dropEdgePoints_9 : decode cX0_dropEdgePoints 9 = .ok (.iload_n 1, 1) := by decide +kernel
theorem dX0_dropEdgePoints_10 : decode cX0_dropEdgePoints 10 = .ok (.ifCond .eq 13, 3) := by decide +kernel
theorem dX0_dropEdgePoints_13 : decode cX0_dropEdgePoints 13 = .ok (.aload_n 0, 1) := by decide +kernel
theorem dX0_dropEdgePoints_14 : decode cX0_dropEdgePoints 14 = .ok (.iload_n 1, 1) := by decide +kernel
theorem dX0_dropEdgePoints_15 : decode cX0_dropEdgePoints 15 = .ok (.iconst 1, 1) := by decide +kernel
theorem dX0_dropEdgePoints_16 : decode cX0_dropEdgePoints 16 = .ok (.isub, 1) := by decide +kernel
theorem dX0_dropEdgePoints_17 : decode cX0_dropEdgePoints 17 = .ok (.invokevirtual 21, 3) := by decide +kernel
theorem dX0_dropEdgePoints_20 : decode cX0_dropEdgePoints 20 = .ok (.ifCond .eq 7, 3) := by decide +kernel
theorem dX0_dropEdgePoints_23 : decode cX0_dropEdgePoints 23 = .ok (.iconst 1, 1) := by decide +kernel
theorem dX0_dropEdgePoints_24 : decode cX0_dropEdgePoints 24 = .ok (.goto 4, 3) := by decide +kernel
theorem dX0_dropEdgePoints_27 : decode cX0_dropEdgePoints 27 = .ok (.iconst 0, 1) := by decide +kernel
theorem dX0_dropEdgePoints_28 : decode cX0_dropEdgePoints 28 = .ok (.istore_n 2, 1) := by decide +kernel
theorem dX0_dropEdgePoints_29 : decode cX0_dropEdgePoints 29 = .ok (.iload_n 1, 1) := by decide +kernel
theorem dX0_dropEdgePoints_30 : decode cX0_dropEdgePoints 30 = .ok (.sipush 200, 3) := by decide +kernel
theorem dX0_dropEdgePoints_33 : decode cX0_dropEdgePoints 33 = .ok (.if_icmp .eq 13, 3) := by decide +kernel
theorem dX0_dropEdgePoints_36 : decode cX0_dropEdgePoints 36 = .ok (.aload_n 0, 1) := by decide +kernel
theorem dX0_dropEdgePoints_37 : decode cX0_dropEdgePoints 37 = .ok (.iload_n 1, 1) := by decide +kernel
theorem dX0_dropEdgePoints_38 : decode cX0_dropEdgePoints 38 = .ok (.iconst 1, 1) := by decide +kernel
theorem dX0_dropEdgePoints_39 : decode cX0_dropEdgePoints 39 = .ok (.iadd, 1) := by decide +kernel
theorem dX0_dropEdgePoints_40 : decode cX0_dropEdgePoints 40 = .ok (.invokevirtual 21, 3) := by decide +kernel
theorem dX0_dropEdgePoints_43 : decode cX0_dropEdgePoints 43 = .ok (.ifCond .eq 7, 3) := by decide +kernel
theorem dX0_dropEdgePoints_46 : decode cX0_dropEdgePoints 46 = .ok (.iconst 1, 1) := by decide +kernel
theorem dX0_dropEdgePoints_47 : decode cX0_dropEdgePoints 47 = .ok (.goto 4, 3) := by decide +kernel
theorem dX0_dropEdgePoints_50 : decode cX0_dropEdgePoints 50 = .ok (.iconst 0, 1) := by decide +kernel
theorem dX0_dropEdgePoints_51 : decode cX0_dropEdgePoints 51 = .ok (.istore_n 3, 1) := by decide +kernel
theorem dX0_dropEdgePoints_52 : decode cX0_dropEdgePoints 52 = .ok (.iload_n 2, 1) := by decide +kernel
theorem dX0_dropEdgePoints_53 : decode cX0_dropEdgePoints 53 = .ok (.ifCond .eq 7, 3) := by decide +kernel
theorem dX0_dropEdgePoints_56 : decode cX0_dropEdgePoints 56 = .ok (.iload_n 3, 1) := by decide +kernel
theorem dX0_dropEdgePoints_57 : decode cX0_dropEdgePoints 57 = .ok (.ifCond .ne 9, 3) := by decide +kernel
theorem dX0_dropEdgePoints_60 : decode cX0_dropEdgePoints 60 = .ok (.aload_n 0, 1) := by decide +kernel
theorem dX0_dropEdgePoints_61 : decode cX0_dropEdgePoints 61 = .ok (.iload_n 1, 1) := by decide +kernel
theorem dX0_dropEdgePoints_62 : decode cX0_dropEdgePoints 62 = .ok (.iconst 0, 1) := by decide +kernel
theorem dX0_dropEdgePoints_63 : decode cX0_dropEdgePoints 63 = .ok (.invokevirtual 25, 3) := by decide +kernel
theorem dX0_dropEdgePoints_66 : decode cX0_dropEdgePoints 66 = .ok (.iinc 1 2, 3) := by decide +kernel
theorem dX0_dropEdgePoints_69 : decode cX0_dropEdgePoints 69 = .ok (.goto (-67), 3) := by decide +kernel
theorem dX0_dropEdgePoints_72 : decode cX0_dropEdgePoints 72 = .ok (.return_, 1) := by decide +kernel
set_option maxRecDepth 20000 in
theorem ggX0_addEdgePoints_X0_holds : GoodIn wsX0_addEdgePoints wsX0_holds := goodIn_r _ [5, 6, 11] (by decide +kernel) (by decide +kernel)
set_option maxRecDepth 20000 in
theorem gX0_addEdgePoints_X0_holds : GoodIn wsX0_addEdgePoints (wsV RX0 21 RX0 yX0_holds wsX0_holds) := goodIn_app (goodIn_of _ (by decide +kernel)) ggX0_addEdgePoints_X0_holds
set_option maxRecDepth 20000 in
theorem ggX0_addEdgePoints_X0_write : GoodIn wsX0_addEdgePoints wsX0_write := goodIn_r _ [10, 6, 11] (by decide +kernel) (by decide +kernel)
set_option maxRecDepth 20000 in
theorem gX0_addEdgePoints_X0_write : GoodIn wsX0_addEdgePoints (wsV RX0 25 RX0 yX0_write wsX0_write) := goodIn_app (goodIn_of _ (by decide +kernel)) ggX0_addEdgePoints_X0_write
theorem dX0_addEdgePoints_0 : decode cX0_addEdgePoints 0 = .ok (.iconst 0, 1) := by decide +kernel
theorem dX0_addEdgePoints_1 : decode cX0_addEdgePoints 1 = .ok (.istore_n 1, 1) := by decide +kernel
theorem dX0_addEdgePoints_2 : decode cX0_addEdgePoints 2 = .ok (.iload_n 1, 1) := by decide +kernel
theorem dX0_addEdgePoints_3 : decode cX0_addEdgePoints 3 = .ok (.sipush 201, 3) := by decide +kernel
theorem dX0_addEdgePoints_6 : decode cX0_addEdgePoints 6 = .ok (.if_icmp .ge 35, 3) := by decide +kernel
theorem dX0_addEdgePoints_9 : decode cX0_addEdgePoints 9 = .ok (.aload_n 0, 1) := by decide +kernel
theorem dX0_addEdgePoints_10 : decode cX0_addEdgePoints 10 = .ok (.iload_n 1, 1) := by decide +kernel
theorem dX0_addEdgePoints_11 : decode cX0_addEdgePoints 11 = .ok (.iconst 1, 1) := by decide +kernel
theorem dX0_addEdgePoints_12 : decode cX0_addEdgePoints 12 = .ok (.isub, 1) := by decide +kernel
theorem dX0_addEdgePoints_13 : decode cX0_addEdgePoints 13 = .ok (.invokevirtual 21, 3) := by decide +kernel
theorem dX0_addEdgePoints_16 : decode cX0_addEdgePoints 16 = .ok (.ifCond .ne 13, 3) := by decide +kernel
theorem dX0_addEdgePoints_19 : decode cX0_addEdgePoints 19 = .ok (.aload_n 0, 1) := by decide +kernel
theorem dX0_addEdgePoints_20 : decode cX0_addEdgePoints 20 = .ok (.iload_n 1, 1) := by decide +kernel
theorem dX0_addEdgePoints_21 : decode cX0_addEdgePoints 21 = .ok (.iconst 1, 1) := by decide +kernel
theorem dX0_addEdgePoints_22 : decode cX0_addEdgePoints 22 = .ok (.iadd, 1) := by decide +kernel
theorem dX0_addEdgePoints_23 : decode cX0_addEdgePoints 23 = .ok (.invokevirtual 21, 3) := by decide +kernel
theorem dX0_addEdgePoints_26 : decode cX0_addEdgePoints 26 = .ok (.ifCond .eq 9, 3) := by decide +kernel
theorem dX0_addEdgePoints_29 : decode cX0_addEdgePoints 29 = .ok (.aload_n 0, 1) := by decide +kernel
theorem dX0_addEdgePoints_30 : decode cX0_addEdgePoints 30 = .ok (.iload_n 1, 1) := by decide +kernel
theorem dX0_addEdgePoints_31 : decode cX0_addEdgePoints 31 = .ok (.iconst 1, 1) := by decide +kernel
theorem dX0_addEdgePoints_32 : decode cX0_addEdgePoints 32 = .ok (.invokevirtual 25, 3) := by decide +kernel
theorem dX0_addEdgePoints_35 : decode cX0_addEdgePoints 35 = .ok (.iinc 1 2, 3) := by decide +kernel
theorem dX0_addEdgePoints_38 : decode cX0_addEdgePoints 38 = .ok (.goto (-36), 3) := by decide +kernel
theorem dX0_addEdgePoints_41 : decode cX0_addEdgePoints 41 = .ok (.return_, 1) := by decide +kernel
set_option maxRecDepth 20000 in
theorem ggX0_keepLonePoints_X0_holds : GoodIn wsX0_keepLonePoints wsX0_holds := goodIn_r _ [5, 6, 11] (by decide +kernel) (by decide +kernel)
set_option maxRecDepth 20000 in
theorem gX0_keepLonePoints_X0_holds : GoodIn wsX0_keepLonePoints (wsV RX0 21 RX0 yX0_holds wsX0_holds) := goodIn_app (goodIn_of _ (by decide +kernel)) ggX0_keepLonePoints_X0_holds
set_option maxRecDepth 20000 in
theorem ggX0_keepLonePoints_X0_write : GoodIn wsX0_keepLonePoints wsX0_write := goodIn_r _ [10, 6, 11] (by decide +kernel) (by decide +kernel)
set_option maxRecDepth 20000 in
theorem gX0_keepLonePoints_X0_write : GoodIn wsX0_keepLonePoints (wsV RX0 25 RX0 yX0_write wsX0_write) := goodIn_app (goodIn_of _ (by decide +kernel)) ggX0_keepLonePoints_X0_write
theorem dX0_keepLonePoints_0 : decode cX0_keepLonePoints 0 = .ok (.iconst 0, 1) := by decide +kernel
theorem dX0_keepLonePoints_1 : decode cX0_keepLonePoints 1 = .ok (.istore_n 1, 1) := by decide +kernel
theorem dX0_keepLonePoints_2 : decode cX0_keepLonePoints 2 = .ok (.iload_n 1, 1) := by decide +kernel
theorem dX0_keepLonePoints_3 : decode cX0_keepLonePoints 3 = .ok (.sipush 201, 3) := by decide +kernel
theorem dX0_keepLonePoints_6 : decode cX0_keepLonePoints 6 = .ok (.if_icmp .ge 35, 3) := by decide +kernel
theorem dX0_keepLonePoints_9 : decode cX0_keepLonePoints 9 = .ok (.aload_n 0, 1) := by decide +kernel
theorem dX0_keepLonePoints_10 : decode cX0_keepLonePoints 10 = .ok (.iload_n 1, 1) := by decide +kernel
theorem dX0_keepLonePoints_11 : decode cX0_keepLonePoints 11 = .ok (.iconst 1, 1) := by decide +kernel
theorem dX0_keepLonePoints_12 : decode cX0_keepLonePoints 12 = .ok (.isub, 1) := by decide +kernel
theorem dX0_keepLonePoints_13 : decode cX0_keepLonePoints 13 = .ok (.invokevirtual 21, 3) := by decide +kernel
theorem dX0_keepLonePoints_16 : decode cX0_keepLonePoints 16 = .ok (.ifCond .ne 13, 3) := by decide +kernel
theorem dX0_keepLonePoints_19 : decode cX0_keepLonePoints 19 = .ok (.aload_n 0, 1) := by decide +kernel
theorem dX0_keepLonePoints_20 : decode cX0_keepLonePoints 20 = .ok (.iload_n 1, 1) := by decide +kernel
theorem dX0_keepLonePoints_21 : decode cX0_keepLonePoints 21 = .ok (.iconst 1, 1) := by decide +kernel
theorem dX0_keepLonePoints_22 : decode cX0_keepLonePoints 22 = .ok (.iadd, 1) := by decide +kernel
theorem dX0_keepLonePoints_23 : decode cX0_keepLonePoints 23 = .ok (.invokevirtual 21, 3) := by decide +kernel
theorem dX0_keepLonePoints_26 : decode cX0_keepLonePoints 26 = .ok (.ifCond .eq 9, 3) := by decide +kernel
theorem dX0_keepLonePoints_29 : decode cX0_keepLonePoints 29 = .ok (.aload_n 0, 1) := by decide +kernel
theorem dX0_keepLonePoints_30 : decode cX0_keepLonePoints 30 = .ok (.iload_n 1, 1) := by decide +kernel
theorem dX0_keepLonePoints_31 : decode cX0_keepLonePoints 31 = .ok (.iconst 0, 1) := by decide +kernel
theorem dX0_keepLonePoints_32 : decode cX0_keepLonePoints 32 = .ok (.invokevirtual 25, 3) := by decide +kernel
theorem dX0_keepLonePoints_35 : decode cX0_keepLonePoints 35 = .ok (.iinc 1 2, 3) := by decide +kernel
theorem dX0_keepLonePoints_38 : decode cX0_keepLonePoints 38 = .ok (.goto (-36), 3) := by decide +kernel
theorem dX0_keepLonePoints_41 : decode cX0_keepLonePoints 41 = .ok (.iconst 1, 1) := by decide +kernel
theorem dX0_keepLonePoints_42 : decode cX0_keepLonePoints 42 = .ok (.istore_n 1, 1) := by decide +kernel
theorem dX0_keepLonePoints_43 : decode cX0_keepLonePoints 43 = .ok (.iload_n 1, 1) := by decide +kernel
theorem dX0_keepLonePoints_44 : decode cX0_keepLonePoints 44 = .ok (.sipush 201, 3) := by decide +kernel
theorem dX0_keepLonePoints_47 : decode cX0_keepLonePoints 47 = .ok (.if_icmp .ge 15, 3) := by decide +kernel
theorem dX0_keepLonePoints_50 : decode cX0_keepLonePoints 50 = .ok (.aload_n 0, 1) := by decide +kernel
theorem dX0_keepLonePoints_51 : decode cX0_keepLonePoints 51 = .ok (.iload_n 1, 1) := by decide +kernel
theorem dX0_keepLonePoints_52 : decode cX0_keepLonePoints 52 = .ok (.iconst 0, 1) := by decide +kernel
theorem dX0_keepLonePoints_53 : decode cX0_keepLonePoints 53 = .ok (.invokevirtual 25, 3) := by decide +kernel
theorem dX0_keepLonePoints_56 : decode cX0_keepLonePoints 56 = .ok (.iinc 1 2, 3) := by decide +kernel
theorem dX0_keepLonePoints_59 : decode cX0_keepLonePoints 59 = .ok (.goto (-16), 3) := by decide +kernel
theorem dX0_keepLonePoints_62 : decode cX0_keepLonePoints 62 = .ok (.return_, 1) := by decide +kernel
set_option maxRecDepth 20000 in
theorem ggX0_mirror_X0_holds : GoodIn wsX0_mirror wsX0_holds := goodIn_r _ [5, 6, 11] (by decide +kernel) (by decide +kernel)
set_option maxRecDepth 20000 in
theorem gX0_mirror_X0_holds : GoodIn wsX0_mirror (wsV RX0 21 RX0 yX0_holds wsX0_holds) := goodIn_app (goodIn_of _ (by decide +kernel)) ggX0_mirror_X0_holds
set_option maxRecDepth 20000 in
theorem ggX0_mirror_X0_write : GoodIn wsX0_mirror wsX0_write := goodIn_r _ [10, 6, 11] (by decide +kernel) (by decide +kernel)
set_option maxRecDepth 20000 in
theorem gX0_mirror_X0_write : GoodIn wsX0_mirror (wsV RX0 25 RX0 yX0_write wsX0_write) := goodIn_app (goodIn_of _ (by decide +kernel)) ggX0_mirror_X0_write
theorem dX0_mirror_0 : decode cX0_mirror 0 = .ok (.iconst 0, 1) := by decide +kernel
theorem dX0_mirror_1 : decode cX0_mirror 1 = .ok (.istore_n 1, 1) := by decide +kernel
theorem dX0_mirror_2 : decode cX0_mirror 2 = .ok (.iload_n 1, 1) := by decide +kernel
theorem dX0_mirror_3 : decode cX0_mirror 3 = .ok (.bipush 100, 2) := by decide +kernel
theorem dX0_mirror_5 : decode cX0_mirror 5 = .ok (.if_icmp .ge 37, 3) := by decide +kernel
theorem dX0_mirror_8 : decode cX0_mirror 8 = .ok (.sipush 200, 3) := by decide +kernel
theorem dX0_mirror_11 : decode cX0_mirror 11 = .ok (.iload_n 1, 1) := by decide +kernel
theorem dX0_mirror_12 : decode cX0_mirror 12 = .ok (.isub, 1) := by decide +kernel
theorem dX0_mirror_13 : decode cX0_mirror 13 = .ok (.istore_n 2, 1) := by decide +kernel
theorem dX0_mirror_14 : decode cX0_mirror 14 = .ok (.aload_n 0, 1) := by decide +kernel
theorem dX0_mirror_15 : decode cX0_mirror 15 = .ok (.iload_n 1, 1) := by decide +kernel
theorem dX0_mirror_16 : decode cX0_mirror 16 = .ok (.invokevirtual 21, 3) := by decide +kernel
theorem dX0_mirror_19 : decode cX0_mirror 19 = .ok (.istore_n 3, 1) := by decide +kernel
theorem dX0_mirror_20 : decode cX0_mirror 20 = .ok (.aload_n 0, 1) := by decide +kernel
theorem dX0_mirror_21 : decode cX0_mirror 21 = .ok (.iload_n 1, 1) := by decide +kernel
theorem dX0_mirror_22 : decode cX0_mirror 22 = .ok (.aload_n 0, 1) := by decide +kernel
theorem dX0_mirror_23 : decode cX0_mirror 23 = .ok (.iload_n 2, 1) := by decide +kernel
theorem dX0_mirror_24 : decode cX0_mirror 24 = .ok (.invokevirtual 21, 3) := by decide +kernel
theorem dX0_mirror_27 : decode cX0_mirror 27 = .ok (.invokevirtual 25, 3) := by decide +kernel
theorem dX0_mirror_30 : decode cX0_mirror 30 = .ok (.aload_n 0, 1) := by decide +kernel
theorem dX0_mirror_31 : decode cX0_mirror 31 = .ok (.iload_n 2, 1) := by decide +kernel
theorem dX0_mirror_32 : decode cX0_mirror 32 = .ok (.iload_n 3, 1) := by decide +kernel
theorem dX0_mirror_33 : decode cX0_mirror 33 = .ok (.invokevirtual 25, 3) := by decide +kernel
theorem dX0_mirror_36 : decode cX0_mirror 36 = .ok (.iinc 1 1, 3) := by decide +kernel
theorem dX0_mirror_39 : decode cX0_mirror 39 = .ok (.goto (-37), 3) := by decide +kernel
theorem dX0_mirror_42 : decode cX0_mirror 42 = .ok (.return_, 1) := by decide +kernel
theorem dX1_init_0 : decode cX1_init 0 = .ok (.aload_n 0, 1) := by decide +kernel
theorem dX1_init_1 : decode cX1_init 1 = .ok (.invokespecial 3, 3) := by decide +kernel
theorem dX1_init_4 : decode cX1_init 4 = .ok (.aload_n 0, 1) := by decide +kernel
theorem dX1_init_5 : decode cX1_init 5 = .ok (.sipush 201, 3) := by decide +kernel
theorem dX1_init_8 : decode cX1_init 8 = .ok (.newarray .int, 2) := by decide +kernel
theorem dX1_init_10 : decode cX1_init 10 = .ok (.putfield 9, 3) := by decide +kernel
theorem dX1_init_13 : decode cX1_init 13 = .ok (.aload_n 0, 1) := by decide +kernel
theorem dX1_init_14 : decode cX1_init 14 = .ok (.sipush 201, 3) := by decide +kernel
theorem dX1_init_17 : decode cX1_init 17 = .ok (.newarray .int, 2) := by decide +kernel
theorem dX1_init_19 : decode cX1_init 19 = .ok (.putfield 15, 3) := by decide +kernel
theorem dX1_init_22 : decode cX1_init 22 = .ok (.aload_n 0, 1) := by decide +kernel
theorem dX1_init_23 : decode cX1_init 23 = .ok (.iconst 0, 1) := by decide +kernel
theorem dX1_init_24 : decode cX1_init 24 = .ok (.putfield 18, 3) := by decide +kernel
theorem dX1_init_27 : decode cX1_init 27 = .ok (.return_, 1) := by decide +kernel
set_option maxRecDepth 20000 in
theorem ggX1_readRuns_X0_holds : GoodIn wsX1_readRuns wsX0_holds := goodIn_r _ [6, 7, 22] (by decide +kernel) (by decide +kernel)
set_option maxRecDepth 20000 in
theorem gX1_readRuns_X0_holds : GoodIn wsX1_readRuns (wsV RX1 22 RX0 yX0_holds wsX0_holds) := goodIn_app (goodIn_of _ (by decide +kernel)) ggX1_readRuns_X0_holds
set_option maxRecDepth 20000 in
theorem ggX1_readRuns_X1_begin : GoodIn wsX1_readRuns wsX1_begin := goodIn_r _ [12, 1, 13, 19, 20, 21] (by decide +kernel) (by decide +kernel)
set_option maxRecDepth 20000 in
theorem gX1_readRuns_X1_begin : GoodIn wsX1_readRuns (wsV RX1 28 RX1 yX1_begin wsX1_begin) := goodIn_app (goodIn_of _ (by decide +kernel)) ggX1_readRuns_X1_begin
set_option maxRecDepth 20000 in
theorem ggX1_readRuns_X1_extend : GoodIn wsX1_readRuns wsX1_extend := goodIn_r _ [17, 1, 18, 19, 20, 21] (by decide +kernel) (by decide +kernel)
set_option maxRecDepth 20000 in
theorem gX1_readRuns_X1_extend : GoodIn wsX1_readRuns (wsV RX1 32 RX1 yX1_extend wsX1_extend) := goodIn_app (goodIn_of _ (by decide +kernel)) ggX1_readRuns_X1_extend
theorem dX1_readRuns_0 : decode cX1_readRuns 0 = .ok (.aload_n 0, 1) := by decide +kernel
theorem dX1_readRuns_1 : decode cX1_readRuns 1 = .ok (.iconst 0, 1) := by decide +kernel
theorem dX1_readRuns_2 : decode cX1_readRuns 2 = .ok (.putfield 18, 3) := by decide +kernel
theorem dX1_readRuns_5 : decode cX1_readRuns 5 = .ok (.iconst 0, 1) := by decide +kernel
theorem dX1_readRuns_6 : decode cX1_readRuns 6 = .ok (.istore_n 3, 1) := by decide +kernel
theorem dX1_readRuns_7 : decode cX1_readRuns 7 = .ok (.iload_n 3, 1) := by decide +kernel
theorem dX1_readRuns_8 : decode cX1_readRuns 8 = .ok (.sipush 201, 3) := by decide +kernel
theorem dX1_readRuns_11 : decode cX1_readRuns 11 = .ok (.if_icmp .ge 43, 3) := by decide +kernel
theorem dX1_readRuns_14 : decode cX1_readRuns 14 = .ok (.aload_n 1, 1) := by decide +kernel
theorem dX1_readRuns_15 : decode cX1_readRuns 15 = .ok (.iload_n 3, 1) := by decide +kernel
theorem dX1_readRuns_16 : decode cX1_readRuns 16 = .ok (.invokevirtual 22, 3) := by decide +kernel
theorem dX1_readRuns_19 : decode cX1_readRuns 19 = .ok (.iload_n 2, 1) := by decide +kernel
theorem dX1_readRuns_20 : decode cX1_readRuns 20 = .ok (.if_icmp .ne 28, 3) := by decide +kernel
theorem dX1_readRuns_23 : decode cX1_readRuns 23 = .ok (.iload_n 3, 1) := by decide +kernel
theorem dX1_readRuns_24 : decode cX1_readRuns 24 = .ok (.ifCond .eq 14, 3) := by decide +kernel
theorem dX1_readRuns_27 : decode cX1_readRuns 27 = .ok (.aload_n 1, 1) := by decide +kernel
theorem dX1_readRuns_28 : decode cX1_readRuns 28 = .ok (.iload_n 3, 1) := by decide +kernel
theorem dX1_readRuns_29 : decode cX1_readRuns 29 = .ok (.iconst 1, 1) := by decide +kernel
theorem dX1_readRuns_30 : decode cX1_readRuns 30 = .ok (.isub, 1) := by decide +kernel
theorem dX1_readRuns_31 : decode cX1_readRuns 31 = .ok (.invokevirtual 22, 3) := by decide +kernel
theorem dX1_readRuns_34 : decode cX1_readRuns 34 = .ok (.iload_n 2, 1) := by decide +kernel
theorem dX1_readRuns_35 : decode cX1_readRuns 35 = .ok (.if_icmp .eq 8, 3) := by decide +kernel
theorem dX1_readRuns_38 : decode cX1_readRuns 38 = .ok (.aload_n 0, 1) := by decide +kernel
theorem dX1_readRuns_39 : decode cX1_readRuns 39 = .ok (.iload_n 3, 1) := by decide +kernel
theorem dX1_readRuns_40 : decode cX1_readRuns 40 = .ok (.invokevirtual 28, 3) := by decide +kernel
theorem dX1_readRuns_43 : decode cX1_readRuns 43 = .ok (.aload_n 0, 1) := by decide +kernel
theorem dX1_readRuns_44 : decode cX1_readRuns 44 = .ok (.iload_n 3, 1) := by decide +kernel
theorem dX1_readRuns_45 : decode cX1_readRuns 45 = .ok (.invokevirtual 32, 3) := by decide +kernel
theorem dX1_readRuns_48 : decode cX1_readRuns 48 = .ok (.iinc 3 1, 3) := by decide +kernel
theorem dX1_readRuns_51 : decode cX1_readRuns 51 = .ok (.goto (-44), 3) := by decide +kernel
theorem dX1_readRuns_54 : decode cX1_readRuns 54 = .ok (.return_, 1) := by decide +kernel
theorem dX1_begin_0 : decode cX1_begin 0 = .ok (.aload_n 0, 1) := by decide +kernel
theorem dX1_begin_1 : decode cX1_begin 1 = .ok (.getfield 18, 3) := by decide +kernel
theorem dX1_begin_4 : decode cX1_begin 4 = .ok (.aload_n 0, 1) := by decide +kernel
theorem dX1_begin_5 : decode cX1_begin 5 = .ok (.getfield 9, 3) := by decide +kernel
theorem dX1_begin_8 : decode cX1_begin 8 = .ok (.arraylength, 1) := by decide +kernel
theorem dX1_begin_9 : decode cX1_begin 9 = .ok (.if_icmp .ge 23, 3) := by decide +kernel
theorem dX1_begin_12 : decode cX1_begin 12 = .ok (.aload_n 0, 1) := by decide +kernel
theorem dX1_begin_13 : decode cX1_begin 13 = .ok (.getfield 9, 3) := by decide +kernel
theorem dX1_begin_16 : decode cX1_begin 16 = .ok (.aload_n 0, 1) := by decide +kernel
theorem dX1_begin_17 : decode cX1_begin 17 = .ok (.getfield 18, 3) := by decide +kernel
theorem dX1_begin_20 : decode cX1_begin 20 = .ok (.iload_n 1, 1) := by decide +kernel
theorem dX1_begin_21 : decode cX1_begin 21 = .ok (.iastore, 1) := by decide +kernel
theorem dX1_begin_22 : decode cX1_begin 22 = .ok (.aload_n 0, 1) := by decide +kernel
theorem dX1_begin_23 : decode cX1_begin 23 = .ok (.dup, 1) := by decide +kernel
theorem dX1_begin_24 : decode cX1_begin 24 = .ok (.getfield 18, 3) := by decide +kernel
theorem dX1_begin_27 : decode cX1_begin 27 = .ok (.iconst 1, 1) := by decide +kernel
theorem dX1_begin_28 : decode cX1_begin 28 = .ok (.iadd, 1) := by decide +kernel
theorem dX1_begin_29 : decode cX1_begin 29 = .ok (.putfield 18, 3) := by decide +kernel
theorem dX1_begin_32 : decode cX1_begin 32 = .ok (.return_, 1) := by decide +kernel
theorem dX1_extend_0 : decode cX1_extend 0 = .ok (.aload_n 0, 1) := by decide +kernel
theorem dX1_extend_1 : decode cX1_extend 1 = .ok (.getfield 18, 3) := by decide +kernel
theorem dX1_extend_4 : decode cX1_extend 4 = .ok (.ifCond .le 27, 3) := by decide +kernel
theorem dX1_extend_7 : decode cX1_extend 7 = .ok (.aload_n 0, 1) := by decide +kernel
theorem dX1_extend_8 : decode cX1_extend 8 = .ok (.getfield 18, 3) := by decide +kernel
theorem dX1_extend_11 : decode cX1_extend 11 = .ok (.aload_n 0, 1) := by decide +kernel
theorem dX1_extend_12 : decode cX1_extend 12 = .ok (.getfield 15, 3) := by decide +kernel
theorem dX1_extend_15 : decode cX1_extend 15 = .ok (.arraylength, 1) := by decide +kernel
theorem dX1_extend_16 : decode cX1_extend 16 = .ok (.if_icmp .gt 15, 3) := by decide +kernel
theorem dX1_extend_19 : decode cX1_extend 19 = .ok (.aload_n 0, 1) := by decide +kernel
theorem dX1_extend_20 : decode cX1_extend 20 = .ok (.getfield 15, 3) := by decide +kernel
theorem dX1_extend_23 : decode cX1_extend 23 = .ok (.aload_n 0, 1) := by decide +kernel
theorem dX1_extend_24 : decode cX1_extend 24 = .ok (.getfield 18, 3) := by decide +kernel
theorem dX1_extend_27 : decode cX1_extend 27 = .ok (.iconst 1, 1) := by decide +kernel
theorem dX1_extend_28 : decode cX1_extend 28 = .ok (.isub, 1) := by decide +kernel
theorem dX1_extend_29 : decode cX1_extend 29 = .ok (.iload_n 1, 1) := by decide +kernel
theorem dX1_extend_30 : decode cX1_extend 30 = .ok (.iastore, 1) := by decide +kernel
theorem dX1_extend_31 : decode cX1_extend 31 = .ok (.return_, 1) := by decide +kernel
theorem dX1_size_0 : decode cX1_size 0 = .ok (.aload_n 0, 1) := by decide +kernel
theorem dX1_size_1 : decode cX1_size 1 = .ok (.getfield 18, 3) := by decide +kernel
theorem dX1_size_4 : decode cX1_size 4 = .ok (.ireturn, 1) := by decide +kernel
theorem dX1_first_0 : decode cX1_first 0 = .ok (.iload_n 1, 1) := by decide +kernel
theorem dX1_first_1 : decode cX1_first 1 = .ok (.ifCond .lt 29, 3) := by decide +kernel
theorem dX1_first_4 : decode cX1_first 4 = .ok (.iload_n 1, 1) := by decide +kernel
theorem dX1_first_5 : decode cX1_first 5 = .ok (.aload_n 0, 1) := by decide +kernel
theorem dX1_first_6 : decode cX1_first 6 = .ok (.getfield 18, 3) := by decide +kernel
theorem dX1_first_9 : decode cX1_first 9 = .ok (.if_icmp .ge 21, 3) := by decide +kernel
theorem dX1_first_12 : decode cX1_first 12 = .ok (.iload_n 1, 1) := by decide +kernel
theorem dX1_first_13 : decode cX1_first 13 = .ok (.aload_n 0, 1) := by decide +kernel
theorem dX1_first_14 : decode cX1_first 14 = .ok (.getfield 9, 3) := by decide +kernel
theorem dX1_first_17 : decode cX1_first 17 = .ok (.arraylength, 1) := by decide +kernel
theorem dX1_first_18 : decode cX1_first 18 = .ok (.if_icmp .ge 12, 3) := by decide +kernel
theorem dX1_first_21 : decode cX1_first 21 = .ok (.aload_n 0, 1) := by decide +kernel
theorem dX1_first_22 : decode cX1_first 22 = .ok (.getfield 9, 3) := by decide +kernel
theorem dX1_first_25 : decode cX1_first 25 = .ok (.iload_n 1, 1) := by decide +kernel
theorem dX1_first_26 : decode cX1_first 26 = .ok (.iaload, 1) := by decide +kernel
theorem dX1_first_27 : decode cX1_first 27 = .ok (.goto 4, 3) := by decide +kernel
theorem dX1_first_30 : decode cX1_first 30 = .ok (.iconst 0, 1) := by decide +kernel
theorem dX1_first_31 : decode cX1_first 31 = .ok (.ireturn, 1) := by decide +kernel
theorem dX1_last_0 : decode cX1_last 0 = .ok (.iload_n 1, 1) := by decide +kernel
theorem dX1_last_1 : decode cX1_last 1 = .ok (.ifCond .lt 29, 3) := by decide +kernel
theorem dX1_last_4 : decode cX1_last 4 = .ok (.iload_n 1, 1) := by decide +kernel
theorem dX1_last_5 : decode cX1_last 5 = .ok (.aload_n 0, 1) := by decide +kernel
theorem dX1_last_6 : decode cX1_last 6 = .ok (.getfield 18, 3) := by decide +kernel
theorem dX1_last_9 : decode cX1_last 9 = .ok (.if_icmp .ge 21, 3) := by decide +kernel
theorem dX1_last_12 : decode cX1_last 12 = .ok (.iload_n 1, 1) := by decide +kernel
theorem dX1_last_13 : decode cX1_last 13 = .ok (.aload_n 0, 1) := by decide +kernel
theorem dX1_last_14 : decode cX1_last 14 = .ok (.getfield 15, 3) := by decide +kernel
theorem dX1_last_17 : decode cX1_last 17 = .ok (.arraylength, 1) := by decide +kernel
theorem dX1_last_18 : decode cX1_last 18 = .ok (.if_icmp .ge 12, 3) := by decide +kernel
theorem dX1_last_21 : decode cX1_last 21 = .ok (.aload_n 0, 1) := by decide +kernel
theorem dX1_last_22 : decode cX1_last 22 = .ok (.getfield 15, 3) := by decide +kernel
theorem dX1_last_25 : decode cX1_last 25 = .ok (.iload_n 1, 1) := by decide +kernel
theorem dX1_last_26 : decode cX1_last 26 = .ok (.iaload, 1) := by decide +kernel
theorem dX1_last_27 : decode cX1_last 27 = .ok (.goto 4, 3) := by decide +kernel
theorem dX1_last_30 : decode cX1_last 30 = .ok (.iconst (-1), 1) := by decide +kernel
theorem dX1_last_31 : decode cX1_last 31 = .ok (.ireturn, 1) := by decide +kernel
set_option maxRecDepth 20000 in
theorem ggX1_length_X1_fact : GoodIn wsX1_length wsX1_fact := goodIn_r _ [5, 6, 7, 8, 4, 9, 10, 11, 12, 13, 14, 15, 16, 17, 18, 19, 20, 21, 22] (by decide +kernel) (by decide +kernel)
set_option maxRecDepth 20000 in
theorem gX1_length_X1_fact : GoodIn wsX1_length (wsV RX1 35 RX1 yX1_fact wsX1_fact) := goodIn_app (goodIn_of _ (by decide +kernel)) ggX1_length_X1_fact
theorem dX1_length_0 : decode cX1_length 0 = .ok (.aload_n 0, 1) := by decide +kernel
theorem dX1_length_1 : decode cX1_length 1 = .ok (.iload_n 1, 1) := by decide +kernel
theorem dX1_length_2 : decode cX1_length 2 = .ok (.iconst 1, 1) := by decide +kernel
theorem dX1_length_3 : decode cX1_length 3 = .ok (.invokevirtual 35, 3) := by decide +kernel
theorem dX1_length_6 : decode cX1_length 6 = .ok (.aload_n 0, 1) := by decide +kernel
theorem dX1_length_7 : decode cX1_length 7 = .ok (.iload_n 1, 1) := by decide +kernel
theorem dX1_length_8 : decode cX1_length 8 = .ok (.iconst 0, 1) := by decide +kernel
theorem dX1_length_9 : decode cX1_length 9 = .ok (.invokevirtual 35, 3) := by decide +kernel
theorem dX1_length_12 : decode cX1_length 12 = .ok (.isub, 1) := by decide +kernel
theorem dX1_length_13 : decode cX1_length 13 = .ok (.ireturn, 1) := by decide +kernel
set_option maxRecDepth 20000 in
theorem ggX1_fact_X1_first : GoodIn wsX1_fact wsX1_first := goodIn_r _ [5, 6, 7, 16, 17, 18] (by decide +kernel) (by decide +kernel)
set_option maxRecDepth 20000 in
theorem gX1_fact_X1_first : GoodIn wsX1_fact (wsV RX1 39 RX1 yX1_first wsX1_first) := goodIn_app (goodIn_of _ (by decide +kernel)) ggX1_fact_X1_first
set_option maxRecDepth 20000 in
theorem ggX1_fact_X1_last : GoodIn wsX1_fact wsX1_last := goodIn_r _ [11, 6, 12, 16, 17, 18] (by decide +kernel) (by decide +kernel)
set_option maxRecDepth 20000 in
theorem gX1_fact_X1_last : GoodIn wsX1_fact (wsV RX1 43 RX1 yX1_last wsX1_last) := goodIn_app (goodIn_of _ (by decide +kernel)) ggX1_fact_X1_last
set_option maxRecDepth 20000 in
theorem ggX1_fact_X3_isPoint : GoodIn wsX1_fact wsX3_isPoint := goodIn_r _ [15] (by decide +kernel) (by decide +kernel)
set_option maxRecDepth 20000 in
theorem gX1_fact_X3_isPoint_n46 : GoodIn wsX1_fact (wsX3_isPoint) := ggX1_fact_X3_isPoint
theorem dX1_fact_0 : decode cX1_fact 0 = .ok (.iload_n 2, 1) := by decide +kernel
theorem dX1_fact_1 : decode cX1_fact 1 = .ok (.lookupswitch 45 #[(0, 27), (1, 35)], 27) := by decide +kernel
theorem dX1_fact_28 : decode cX1_fact 28 = .ok (.aload_n 0, 1) := by decide +kernel
theorem dX1_fact_29 : decode cX1_fact 29 = .ok (.iload_n 1, 1) := by decide +kernel
theorem dX1_fact_30 : decode cX1_fact 30 = .ok (.invokevirtual 39, 3) := by decide +kernel
theorem dX1_fact_33 : decode cX1_fact 33 = .ok (.iconst 2, 1) := by decide +kernel
theorem dX1_fact_34 : decode cX1_fact 34 = .ok (.idiv, 1) := by decide +kernel
theorem dX1_fact_35 : decode cX1_fact 35 = .ok (.ireturn, 1) := by decide +kernel
theorem dX1_fact_36 : decode cX1_fact 36 = .ok (.aload_n 0, 1) := by decide +kernel
theorem dX1_fact_37 : decode cX1_fact 37 = .ok (.iload_n 1, 1) := by decide +kernel
theorem dX1_fact_38 : decode cX1_fact 38 = .ok (.invokevirtual 43, 3) := by decide +kernel
theorem dX1_fact_41 : decode cX1_fact 41 = .ok (.iconst 1, 1) := by decide +kernel
theorem dX1_fact_42 : decode cX1_fact 42 = .ok (.iadd, 1) := by decide +kernel
theorem dX1_fact_43 : decode cX1_fact 43 = .ok (.iconst 2, 1) := by decide +kernel
theorem dX1_fact_44 : decode cX1_fact 44 = .ok (.idiv, 1) := by decide +kernel
theorem dX1_fact_45 : decode cX1_fact 45 = .ok (.ireturn, 1) := by decide +kernel
theorem dX1_fact_46 : decode cX1_fact 46 = .ok (.aload_n 0, 1) := by decide +kernel
theorem dX1_fact_47 : decode cX1_fact 47 = .ok (.iload_n 1, 1) := by decide +kernel
theorem dX1_fact_48 : decode cX1_fact 48 = .ok (.invokevirtual 39, 3) := by decide +kernel
theorem dX1_fact_51 : decode cX1_fact 51 = .ok (.invokestatic 46, 3) := by decide +kernel
theorem dX1_fact_54 : decode cX1_fact 54 = .ok (.ifCond .eq 7, 3) := by decide +kernel
theorem dX1_fact_57 : decode cX1_fact 57 = .ok (.iconst 1, 1) := by decide +kernel
theorem dX1_fact_58 : decode cX1_fact 58 = .ok (.goto 4, 3) := by decide +kernel
theorem dX1_fact_61 : decode cX1_fact 61 = .ok (.iconst 0, 1) := by decide +kernel
theorem dX1_fact_62 : decode cX1_fact 62 = .ok (.aload_n 0, 1) := by decide +kernel
theorem dX1_fact_63 : decode cX1_fact 63 = .ok (.iload_n 1, 1) := by decide +kernel
theorem dX1_fact_64 : decode cX1_fact 64 = .ok (.invokevirtual 43, 3) := by decide +kernel
theorem dX1_fact_67 : decode cX1_fact 67 = .ok (.invokestatic 46, 3) := by decide +kernel
theorem dX1_fact_70 : decode cX1_fact 70 = .ok (.ifCond .eq 7, 3) := by decide +kernel
theorem dX1_fact_73 : decode cX1_fact 73 = .ok (.iconst 2, 1) := by decide +kernel
theorem dX1_fact_74 : decode cX1_fact 74 = .ok (.goto 4, 3) := by decide +kernel
theorem dX1_fact_77 : decode cX1_fact 77 = .ok (.iconst 0, 1) := by decide +kernel
theorem dX1_fact_78 : decode cX1_fact 78 = .ok (.iadd, 1) := by decide +kernel
theorem dX1_fact_79 : decode cX1_fact 79 = .ok (.ireturn, 1) := by decide +kernel
set_option maxRecDepth 20000 in
theorem ggX1_lonePoints_X1_length : GoodIn wsX1_lonePoints wsX1_length := goodIn_r _ [6, 7, 8, 9, 5, 10, 11, 12, 13, 14, 1, 15, 16, 17, 18, 19, 20, 21, 22, 23, 24, 25, 26] (by decide +kernel) (by decide +kernel)
set_option maxRecDepth 20000 in
theorem gX1_lonePoints_X1_length : GoodIn wsX1_lonePoints (wsV RX1 49 RX1 yX1_length wsX1_length) := goodIn_app (goodIn_of _ (by decide +kernel)) ggX1_lonePoints_X1_length
theorem dX1_lonePoints_0 : decode cX1_lonePoints 0 = .ok (.iconst 0, 1) := by decide +kernel
theorem dX1_lonePoints_1 : decode cX1_lonePoints 1 = .ok (.istore_n 1, 1) := by decide +kernel
theorem dX1_lonePoints_2 : decode cX1_lonePoints 2 = .ok (.iconst 0, 1) := by decide +kernel
theorem dX1_lonePoints_3 : decode cX1_lonePoints 3 = .ok (.istore_n 2, 1) := by decide +kernel
theorem dX1_lonePoints_4 : decode cX1_lonePoints 4 = .ok (.iload_n 2, 1) := by decide +kernel
theorem dX1_lonePoints_5 : decode cX1_lonePoints 5 = .ok (.aload_n 0, 1) := by decide +kernel
theorem dX1_lonePoints_6 : decode cX1_lonePoints 6 = .ok (.getfield 18, 3) := by decide +kernel
theorem dX1_lonePoints_9 : decode cX1_lonePoints 9 = .ok (.if_icmp .ge 20, 3) := by decide +kernel
theorem dX1_lonePoints_12 : decode cX1_lonePoints 12 = .ok (.aload_n 0, 1) := by decide +kernel
theorem dX1_lonePoints_13 : decode cX1_lonePoints 13 = .ok (.iload_n 2, 1) := by decide +kernel
theorem dX1_lonePoints_14 : decode cX1_lonePoints 14 = .ok (.invokevirtual 49, 3) := by decide +kernel
theorem dX1_lonePoints_17 : decode cX1_lonePoints 17 = .ok (.ifCond .ne 6, 3) := by decide +kernel
theorem dX1_lonePoints_20 : decode cX1_lonePoints 20 = .ok (.iinc 1 1, 3) := by decide +kernel
theorem dX1_lonePoints_23 : decode cX1_lonePoints 23 = .ok (.iinc 2 1, 3) := by decide +kernel
theorem dX1_lonePoints_26 : decode cX1_lonePoints 26 = .ok (.goto (-22), 3) := by decide +kernel
theorem dX1_lonePoints_29 : decode cX1_lonePoints 29 = .ok (.iload_n 1, 1) := by decide +kernel
theorem dX1_lonePoints_30 : decode cX1_lonePoints 30 = .ok (.ireturn, 1) := by decide +kernel
set_option maxRecDepth 20000 in
theorem ggX1_longest_X1_length : GoodIn wsX1_longest wsX1_length := goodIn_r _ [6, 7, 8, 9, 5, 10, 11, 12, 13, 14, 1, 15, 16, 17, 18, 19, 20, 21, 22, 23, 24, 25, 26] (by decide +kernel) (by decide +kernel)
set_option maxRecDepth 20000 in
theorem gX1_longest_X1_length : GoodIn wsX1_longest (wsV RX1 49 RX1 yX1_length wsX1_length) := goodIn_app (goodIn_of _ (by decide +kernel)) ggX1_longest_X1_length
theorem dX1_longest_0 : decode cX1_longest 0 = .ok (.iconst 0, 1) := by decide +kernel
theorem dX1_longest_1 : decode cX1_longest 1 = .ok (.istore_n 1, 1) := by decide +kernel
theorem dX1_longest_2 : decode cX1_longest 2 = .ok (.iconst 1, 1) := by decide +kernel
theorem dX1_longest_3 : decode cX1_longest 3 = .ok (.istore_n 2, 1) := by decide +kernel
theorem dX1_longest_4 : decode cX1_longest 4 = .ok (.iload_n 2, 1) := by decide +kernel
theorem dX1_longest_5 : decode cX1_longest 5 = .ok (.aload_n 0, 1) := by decide +kernel
theorem dX1_longest_6 : decode cX1_longest 6 = .ok (.getfield 18, 3) := by decide +kernel
theorem dX1_longest_9 : decode cX1_longest 9 = .ok (.if_icmp .ge 24, 3) := by decide +kernel
theorem dX1_longest_12 : decode cX1_longest 12 = .ok (.aload_n 0, 1) := by decide +kernel
theorem dX1_longest_13 : decode cX1_longest 13 = .ok (.iload_n 2, 1) := by decide +kernel
theorem dX1_longest_14 : decode cX1_longest 14 = .ok (.invokevirtual 49, 3) := by decide +kernel
theorem dX1_longest_17 : decode cX1_longest 17 = .ok (.aload_n 0, 1) := by decide +kernel
theorem dX1_longest_18 : decode cX1_longest 18 = .ok (.iload_n 1, 1) := by decide +kernel
theorem dX1_longest_19 : decode cX1_longest 19 = .ok (.invokevirtual 49, 3) := by decide +kernel
theorem dX1_longest_22 : decode cX1_longest 22 = .ok (.if_icmp .le 5, 3) := by decide +kernel
theorem dX1_longest_25 : decode cX1_longest 25 = .ok (.iload_n 2, 1) := by decide +kernel
theorem dX1_longest_26 : decode cX1_longest 26 = .ok (.istore_n 1, 1) := by decide +kernel
theorem dX1_longest_27 : decode cX1_longest 27 = .ok (.iinc 2 1, 3) := by decide +kernel
theorem dX1_longest_30 : decode cX1_longest 30 = .ok (.goto (-26), 3) := by decide +kernel
theorem dX1_longest_33 : decode cX1_longest 33 = .ok (.iload_n 1, 1) := by decide +kernel
theorem dX1_longest_34 : decode cX1_longest 34 = .ok (.ireturn, 1) := by decide +kernel
theorem dX2_init_0 : decode cX2_init 0 = .ok (.aload_n 0, 1) := by decide +kernel
theorem dX2_init_1 : decode cX2_init 1 = .ok (.invokespecial 3, 3) := by decide +kernel
theorem dX2_init_4 : decode cX2_init 4 = .ok (.aload_n 0, 1) := by decide +kernel
theorem dX2_init_5 : decode cX2_init 5 = .ok (.sipush 201, 3) := by decide +kernel
theorem dX2_init_8 : decode cX2_init 8 = .ok (.newarray .int, 2) := by decide +kernel
theorem dX2_init_10 : decode cX2_init 10 = .ok (.putfield 9, 3) := by decide +kernel
theorem dX2_init_13 : decode cX2_init 13 = .ok (.return_, 1) := by decide +kernel
theorem dX2_at_0 : decode cX2_at 0 = .ok (.iload_n 1, 1) := by decide +kernel
theorem dX2_at_1 : decode cX2_at 1 = .ok (.ifCond .lt 21, 3) := by decide +kernel
theorem dX2_at_4 : decode cX2_at 4 = .ok (.iload_n 1, 1) := by decide +kernel
theorem dX2_at_5 : decode cX2_at 5 = .ok (.aload_n 0, 1) := by decide +kernel
theorem dX2_at_6 : decode cX2_at 6 = .ok (.getfield 9, 3) := by decide +kernel
theorem dX2_at_9 : decode cX2_at 9 = .ok (.arraylength, 1) := by decide +kernel
theorem dX2_at_10 : decode cX2_at 10 = .ok (.if_icmp .ge 12, 3) := by decide +kernel
theorem dX2_at_13 : decode cX2_at 13 = .ok (.aload_n 0, 1) := by decide +kernel
theorem dX2_at_14 : decode cX2_at 14 = .ok (.getfield 9, 3) := by decide +kernel
theorem dX2_at_17 : decode cX2_at 17 = .ok (.iload_n 1, 1) := by decide +kernel
theorem dX2_at_18 : decode cX2_at 18 = .ok (.iaload, 1) := by decide +kernel
theorem dX2_at_19 : decode cX2_at 19 = .ok (.goto 4, 3) := by decide +kernel
theorem dX2_at_22 : decode cX2_at 22 = .ok (.iconst 0, 1) := by decide +kernel
theorem dX2_at_23 : decode cX2_at 23 = .ok (.ireturn, 1) := by decide +kernel
theorem dX2_write_0 : decode cX2_write 0 = .ok (.iload_n 1, 1) := by decide +kernel
theorem dX2_write_1 : decode cX2_write 1 = .ok (.ifCond .lt 31, 3) := by decide +kernel
theorem dX2_write_4 : decode cX2_write 4 = .ok (.iload_n 1, 1) := by decide +kernel
theorem dX2_write_5 : decode cX2_write 5 = .ok (.aload_n 0, 1) := by decide +kernel
theorem dX2_write_6 : decode cX2_write 6 = .ok (.getfield 9, 3) := by decide +kernel
theorem dX2_write_9 : decode cX2_write 9 = .ok (.arraylength, 1) := by decide +kernel
theorem dX2_write_10 : decode cX2_write 10 = .ok (.if_icmp .ge 22, 3) := by decide +kernel
theorem dX2_write_13 : decode cX2_write 13 = .ok (.aload_n 0, 1) := by decide +kernel
theorem dX2_write_14 : decode cX2_write 14 = .ok (.getfield 9, 3) := by decide +kernel
theorem dX2_write_17 : decode cX2_write 17 = .ok (.iload_n 1, 1) := by decide +kernel
theorem dX2_write_18 : decode cX2_write 18 = .ok (.sipush (-10000), 3) := by decide +kernel
theorem dX2_write_21 : decode cX2_write 21 = .ok (.sipush 10000, 3) := by decide +kernel
theorem dX2_write_24 : decode cX2_write 24 = .ok (.iload_n 2, 1) := by decide +kernel
theorem dX2_write_25 : decode cX2_write 25 = .ok (.invokestatic 15, 3) := by decide +kernel
theorem dX2_write_28 : decode cX2_write 28 = .ok (.invokestatic 21, 3) := by decide +kernel
theorem dX2_write_31 : decode cX2_write 31 = .ok (.iastore, 1) := by decide +kernel
theorem dX2_write_32 : decode cX2_write 32 = .ok (.return_, 1) := by decide +kernel
set_option maxRecDepth 20000 in
theorem ggX2_copyFrom_X2_at : GoodIn wsX2_copyFrom wsX2_at := goodIn_r _ [5, 6, 18] (by decide +kernel) (by decide +kernel)
set_option maxRecDepth 20000 in
theorem gX2_copyFrom_X2_at : GoodIn wsX2_copyFrom (wsV RX2 24 RX2 yX2_at wsX2_at) := goodIn_app (goodIn_of _ (by decide +kernel)) ggX2_copyFrom_X2_at
set_option maxRecDepth 20000 in
theorem ggX2_copyFrom_X2_write : GoodIn wsX2_copyFrom wsX2_write := goodIn_r _ [10, 6, 11, 12, 13, 14, 15, 16, 17, 18] (by decide +kernel) (by decide +kernel)
set_option maxRecDepth 20000 in
theorem gX2_copyFrom_X2_write : GoodIn wsX2_copyFrom (wsV RX2 28 RX2 yX2_write wsX2_write) := goodIn_app (goodIn_of _ (by decide +kernel)) ggX2_copyFrom_X2_write
theorem dX2_copyFrom_0 : decode cX2_copyFrom 0 = .ok (.iconst 0, 1) := by decide +kernel
theorem dX2_copyFrom_1 : decode cX2_copyFrom 1 = .ok (.istore_n 2, 1) := by decide +kernel
theorem dX2_copyFrom_2 : decode cX2_copyFrom 2 = .ok (.iload_n 2, 1) := by decide +kernel
theorem dX2_copyFrom_3 : decode cX2_copyFrom 3 = .ok (.sipush 201, 3) := by decide +kernel
theorem dX2_copyFrom_6 : decode cX2_copyFrom 6 = .ok (.if_icmp .ge 19, 3) := by decide +kernel
theorem dX2_copyFrom_9 : decode cX2_copyFrom 9 = .ok (.aload_n 0, 1) := by decide +kernel
theorem dX2_copyFrom_10 : decode cX2_copyFrom 10 = .ok (.iload_n 2, 1) := by decide +kernel
theorem dX2_copyFrom_11 : decode cX2_copyFrom 11 = .ok (.aload_n 1, 1) := by decide +kernel
theorem dX2_copyFrom_12 : decode cX2_copyFrom 12 = .ok (.iload_n 2, 1) := by decide +kernel
theorem dX2_copyFrom_13 : decode cX2_copyFrom 13 = .ok (.invokevirtual 24, 3) := by decide +kernel
theorem dX2_copyFrom_16 : decode cX2_copyFrom 16 = .ok (.invokevirtual 28, 3) := by decide +kernel
theorem dX2_copyFrom_19 : decode cX2_copyFrom 19 = .ok (.iinc 2 1, 3) := by decide +kernel
theorem dX2_copyFrom_22 : decode cX2_copyFrom 22 = .ok (.goto (-20), 3) := by decide +kernel
theorem dX2_copyFrom_25 : decode cX2_copyFrom 25 = .ok (.return_, 1) := by decide +kernel
set_option maxRecDepth 20000 in
theorem ggX2_steps_X2_at : GoodIn wsX2_steps wsX2_at := goodIn_r _ [5, 6, 7] (by decide +kernel) (by decide +kernel)
set_option maxRecDepth 20000 in
theorem gX2_steps_X2_at : GoodIn wsX2_steps (wsV RX2 24 RX2 yX2_at wsX2_at) := goodIn_app (goodIn_of _ (by decide +kernel)) ggX2_steps_X2_at
theorem dX2_steps_0 : decode cX2_steps 0 = .ok (.iconst 1, 1) := by decide +kernel
theorem dX2_steps_1 : decode cX2_steps 1 = .ok (.istore_n 1, 1) := by decide +kernel
theorem dX2_steps_2 : decode cX2_steps 2 = .ok (.iconst 1, 1) := by decide +kernel
theorem dX2_steps_3 : decode cX2_steps 3 = .ok (.istore_n 2, 1) := by decide +kernel
theorem dX2_steps_4 : decode cX2_steps 4 = .ok (.iload_n 2, 1) := by decide +kernel
theorem dX2_steps_5 : decode cX2_steps 5 = .ok (.sipush 201, 3) := by decide +kernel
theorem dX2_steps_8 : decode cX2_steps 8 = .ok (.if_icmp .ge 27, 3) := by decide +kernel
theorem dX2_steps_11 : decode cX2_steps 11 = .ok (.aload_n 0, 1) := by decide +kernel
theorem dX2_steps_12 : decode cX2_steps 12 = .ok (.iload_n 2, 1) := by decide +kernel
theorem dX2_steps_13 : decode cX2_steps 13 = .ok (.invokevirtual 24, 3) := by decide +kernel
theorem dX2_steps_16 : decode cX2_steps 16 = .ok (.aload_n 0, 1) := by decide +kernel
theorem dX2_steps_17 : decode cX2_steps 17 = .ok (.iload_n 2, 1) := by decide +kernel
theorem dX2_steps_18 : decode cX2_steps 18 = .ok (.iconst 1, 1) := by decide +kernel
theorem dX2_steps_19 : decode cX2_steps 19 = .ok (.isub, 1) := by decide +kernel
theorem dX2_steps_20 : decode cX2_steps 20 = .ok (.invokevirtual 24, 3) := by decide +kernel
theorem dX2_steps_23 : decode cX2_steps 23 = .ok (.if_icmp .eq 6, 3) := by decide +kernel
theorem dX2_steps_26 : decode cX2_steps 26 = .ok (.iinc 1 1, 3) := by decide +kernel
theorem dX2_steps_29 : decode cX2_steps 29 = .ok (.iinc 2 1, 3) := by decide +kernel
theorem dX2_steps_32 : decode cX2_steps 32 = .ok (.goto (-28), 3) := by decide +kernel
theorem dX2_steps_35 : decode cX2_steps 35 = .ok (.iload_n 1, 1) := by decide +kernel
theorem dX2_steps_36 : decode cX2_steps 36 = .ok (.ireturn, 1) := by decide +kernel
set_option maxRecDepth 20000 in
theorem ggX2_greatest_X2_at : GoodIn wsX2_greatest wsX2_at := goodIn_r _ [9, 10, 11] (by decide +kernel) (by decide +kernel)
set_option maxRecDepth 20000 in
theorem gX2_greatest_X2_at : GoodIn wsX2_greatest (wsV RX2 24 RX2 yX2_at wsX2_at) := goodIn_app (goodIn_of _ (by decide +kernel)) ggX2_greatest_X2_at
theorem dX2_greatest_0 : decode cX2_greatest 0 = .ok (.sipush (-10000), 3) := by decide +kernel
theorem dX2_greatest_3 : decode cX2_greatest 3 = .ok (.istore_n 3, 1) := by decide +kernel
theorem dX2_greatest_4 : decode cX2_greatest 4 = .ok (.iload_n 1, 1) := by decide +kernel
theorem dX2_greatest_5 : decode cX2_greatest 5 = .ok (.iconst 0, 1) := by decide +kernel
theorem dX2_greatest_6 : decode cX2_greatest 6 = .ok (.invokestatic 21, 3) := by decide +kernel
theorem dX2_greatest_9 : decode cX2_greatest 9 = .ok (.istore 4, 2) := by decide +kernel
theorem dX2_greatest_11 : decode cX2_greatest 11 = .ok (.iload 4, 2) := by decide +kernel
theorem dX2_greatest_13 : decode cX2_greatest 13 = .ok (.iload_n 2, 1) := by decide +kernel
theorem dX2_greatest_14 : decode cX2_greatest 14 = .ok (.if_icmp .gt 28, 3) := by decide +kernel
theorem dX2_greatest_17 : decode cX2_greatest 17 = .ok (.iload 4, 2) := by decide +kernel
theorem dX2_greatest_19 : decode cX2_greatest 19 = .ok (.sipush 201, 3) := by decide +kernel
theorem dX2_greatest_22 : decode cX2_greatest 22 = .ok (.if_icmp .ge 20, 3) := by decide +kernel
theorem dX2_greatest_25 : decode cX2_greatest 25 = .ok (.iload_n 3, 1) := by decide +kernel
theorem dX2_greatest_26 : decode cX2_greatest 26 = .ok (.aload_n 0, 1) := by decide +kernel
theorem dX2_greatest_27 : decode cX2_greatest 27 = .ok (.iload 4, 2) := by decide +kernel
theorem dX2_greatest_29 : decode cX2_greatest 29 = .ok (.invokevirtual 24, 3) := by decide +kernel
theorem dX2_greatest_32 : decode cX2_greatest 32 = .ok (.invokestatic 21, 3) := by decide +kernel
theorem dX2_greatest_35 : decode cX2_greatest 35 = .ok (.istore_n 3, 1) := by decide +kernel
theorem dX2_greatest_36 : decode cX2_greatest 36 = .ok (.iinc 4 1, 3) := by decide +kernel
theorem dX2_greatest_39 : decode cX2_greatest 39 = .ok (.goto (-28), 3) := by decide +kernel
theorem dX2_greatest_42 : decode cX2_greatest 42 = .ok (.iload_n 3, 1) := by decide +kernel
theorem dX2_greatest_43 : decode cX2_greatest 43 = .ok (.ireturn, 1) := by decide +kernel
set_option maxRecDepth 20000 in
theorem ggX2_least_X2_at : GoodIn wsX2_least wsX2_at := goodIn_r _ [12, 13, 14] (by decide +kernel) (by decide +kernel)
set_option maxRecDepth 20000 in
theorem gX2_least_X2_at : GoodIn wsX2_least (wsV RX2 24 RX2 yX2_at wsX2_at) := goodIn_app (goodIn_of _ (by decide +kernel)) ggX2_least_X2_at
theorem dX2_least_0 : decode cX2_least 0 = .ok (.sipush 10000, 3) := by decide +kernel
theorem dX2_least_3 : decode cX2_least 3 = .ok (.istore_n 3, 1) := by decide +kernel
theorem dX2_least_4 : decode cX2_least 4 = .ok (.iload_n 1, 1) := by decide +kernel
theorem dX2_least_5 : decode cX2_least 5 = .ok (.iconst 0, 1) := by decide +kernel
theorem dX2_least_6 : decode cX2_least 6 = .ok (.invokestatic 21, 3) := by decide +kernel
theorem dX2_least_9 : decode cX2_least 9 = .ok (.istore 4, 2) := by decide +kernel
theorem dX2_least_11 : decode cX2_least 11 = .ok (.iload 4, 2) := by decide +kernel
theorem dX2_least_13 : decode cX2_least 13 = .ok (.iload_n 2, 1) := by decide +kernel
theorem dX2_least_14 : decode cX2_least 14 = .ok (.if_icmp .gt 28, 3) := by decide +kernel
theorem dX2_least_17 : decode cX2_least 17 = .ok (.iload 4, 2) := by decide +kernel
theorem dX2_least_19 : decode cX2_least 19 = .ok (.sipush 201, 3) := by decide +kernel
theorem dX2_least_22 : decode cX2_least 22 = .ok (.if_icmp .ge 20, 3) := by decide +kernel
theorem dX2_least_25 : decode cX2_least 25 = .ok (.iload_n 3, 1) := by decide +kernel
theorem dX2_least_26 : decode cX2_least 26 = .ok (.aload_n 0, 1) := by decide +kernel
theorem dX2_least_27 : decode cX2_least 27 = .ok (.iload 4, 2) := by decide +kernel
theorem dX2_least_29 : decode cX2_least 29 = .ok (.invokevirtual 24, 3) := by decide +kernel
theorem dX2_least_32 : decode cX2_least 32 = .ok (.invokestatic 15, 3) := by decide +kernel
theorem dX2_least_35 : decode cX2_least 35 = .ok (.istore_n 3, 1) := by decide +kernel
theorem dX2_least_36 : decode cX2_least 36 = .ok (.iinc 4 1, 3) := by decide +kernel
theorem dX2_least_39 : decode cX2_least 39 = .ok (.goto (-28), 3) := by decide +kernel
theorem dX2_least_42 : decode cX2_least 42 = .ok (.iload_n 3, 1) := by decide +kernel
theorem dX2_least_43 : decode cX2_least 43 = .ok (.ireturn, 1) := by decide +kernel
set_option maxRecDepth 20000 in
theorem ggX2_firstGreatest_X2_at : GoodIn wsX2_firstGreatest wsX2_at := goodIn_r _ [5, 6, 7] (by decide +kernel) (by decide +kernel)
set_option maxRecDepth 20000 in
theorem gX2_firstGreatest_X2_at : GoodIn wsX2_firstGreatest (wsV RX2 24 RX2 yX2_at wsX2_at) := goodIn_app (goodIn_of _ (by decide +kernel)) ggX2_firstGreatest_X2_at
theorem dX2_firstGreatest_0 : decode cX2_firstGreatest 0 = .ok (.iconst 0, 1) := by decide +kernel
theorem dX2_firstGreatest_1 : decode cX2_firstGreatest 1 = .ok (.istore_n 1, 1) := by decide +kernel
theorem dX2_firstGreatest_2 : decode cX2_firstGreatest 2 = .ok (.iconst 1, 1) := by decide +kernel
theorem dX2_firstGreatest_3 : decode cX2_firstGreatest 3 = .ok (.istore_n 2, 1) := by decide +kernel
theorem dX2_firstGreatest_4 : decode cX2_firstGreatest 4 = .ok (.iload_n 2, 1) := by decide +kernel
theorem dX2_firstGreatest_5 : decode cX2_firstGreatest 5 = .ok (.sipush 201, 3) := by decide +kernel
theorem dX2_firstGreatest_8 : decode cX2_firstGreatest 8 = .ok (.if_icmp .ge 24, 3) := by decide +kernel
theorem dX2_firstGreatest_11 : decode cX2_firstGreatest 11 = .ok (.aload_n 0, 1) := by decide +kernel
theorem dX2_firstGreatest_12 : decode cX2_firstGreatest 12 = .ok (.iload_n 2, 1) := by decide +kernel
theorem dX2_firstGreatest_13 : decode cX2_firstGreatest 13 = .ok (.invokevirtual 24, 3) := by decide +kernel
theorem dX2_firstGreatest_16 : decode cX2_firstGreatest 16 = .ok (.aload_n 0, 1) := by decide +kernel
theorem dX2_firstGreatest_17 : decode cX2_firstGreatest 17 = .ok (.iload_n 1, 1) := by decide +kernel
theorem dX2_firstGreatest_18 : decode cX2_firstGreatest 18 = .ok (.invokevirtual 24, 3) := by decide +kernel
theorem dX2_firstGreatest_21 : decode cX2_firstGreatest 21 = .ok (.if_icmp .le 5, 3) := by decide +kernel
theorem dX2_firstGreatest_24 : decode cX2_firstGreatest 24 = .ok (.iload_n 2, 1) := by decide +kernel
theorem dX2_firstGreatest_25 : decode cX2_firstGreatest 25 = .ok (.istore_n 1, 1) := by decide +kernel
theorem dX2_firstGreatest_26 : decode cX2_firstGreatest 26 = .ok (.iinc 2 1, 3) := by decide +kernel
theorem dX2_firstGreatest_29 : decode cX2_firstGreatest 29 = .ok (.goto (-25), 3) := by decide +kernel
theorem dX2_firstGreatest_32 : decode cX2_firstGreatest 32 = .ok (.iload_n 1, 1) := by decide +kernel
theorem dX2_firstGreatest_33 : decode cX2_firstGreatest 33 = .ok (.ireturn, 1) := by decide +kernel
set_option maxRecDepth 20000 in
theorem ggX2_negate_X2_at : GoodIn wsX2_negate wsX2_at := goodIn_r _ [5, 6, 18] (by decide +kernel) (by decide +kernel)
set_option maxRecDepth 20000 in
theorem gX2_negate_X2_at : GoodIn wsX2_negate (wsV RX2 24 RX2 yX2_at wsX2_at) := goodIn_app (goodIn_of _ (by decide +kernel)) ggX2_negate_X2_at
set_option maxRecDepth 20000 in
theorem ggX2_negate_X2_write : GoodIn wsX2_negate wsX2_write := goodIn_r _ [10, 6, 11, 12, 13, 14, 15, 16, 17, 18] (by decide +kernel) (by decide +kernel)
set_option maxRecDepth 20000 in
theorem gX2_negate_X2_write : GoodIn wsX2_negate (wsV RX2 28 RX2 yX2_write wsX2_write) := goodIn_app (goodIn_of _ (by decide +kernel)) ggX2_negate_X2_write
theorem dX2_negate_0 : decode cX2_negate 0 = .ok (.iconst 0, 1) := by decide +kernel
theorem dX2_negate_1 : decode cX2_negate 1 = .ok (.istore_n 1, 1) := by decide +kernel
theorem dX2_negate_2 : decode cX2_negate 2 = .ok (.iload_n 1, 1) := by decide +kernel
theorem dX2_negate_3 : decode cX2_negate 3 = .ok (.sipush 201, 3) := by decide +kernel
theorem dX2_negate_6 : decode cX2_negate 6 = .ok (.if_icmp .ge 20, 3) := by decide +kernel
theorem dX2_negate_9 : decode cX2_negate 9 = .ok (.aload_n 0, 1) := by decide +kernel
theorem dX2_negate_10 : decode cX2_negate 10 = .ok (.iload_n 1, 1) := by decide +kernel
theorem dX2_negate_11 : decode cX2_negate 11 = .ok (.aload_n 0, 1) := by decide +kernel
theorem dX2_negate_12 : decode cX2_negate 12 = .ok (.iload_n 1, 1) := by decide +kernel
theorem dX2_negate_13 : decode cX2_negate 13 = .ok (.invokevirtual 24, 3) := by decide +kernel
theorem dX2_negate_16 : decode cX2_negate 16 = .ok (.ineg, 1) := by decide +kernel
theorem dX2_negate_17 : decode cX2_negate 17 = .ok (.invokevirtual 28, 3) := by decide +kernel
theorem dX2_negate_20 : decode cX2_negate 20 = .ok (.iinc 1 1, 3) := by decide +kernel
theorem dX2_negate_23 : decode cX2_negate 23 = .ok (.goto (-21), 3) := by decide +kernel
theorem dX2_negate_26 : decode cX2_negate 26 = .ok (.return_, 1) := by decide +kernel
set_option maxRecDepth 20000 in
theorem ggX2_climbFromLeft_X2_at : GoodIn wsX2_climbFromLeft wsX2_at := goodIn_r _ [9, 10, 18] (by decide +kernel) (by decide +kernel)
set_option maxRecDepth 20000 in
theorem gX2_climbFromLeft_X2_at : GoodIn wsX2_climbFromLeft (wsV RX2 24 RX2 yX2_at wsX2_at) := goodIn_app (goodIn_of _ (by decide +kernel)) ggX2_climbFromLeft_X2_at
set_option maxRecDepth 20000 in
theorem ggX2_climbFromLeft_X2_write : GoodIn wsX2_climbFromLeft wsX2_write := goodIn_r _ [14, 10, 15, 16, 3, 17, 1, 2, 4, 18] (by decide +kernel) (by decide +kernel)
set_option maxRecDepth 20000 in
theorem gX2_climbFromLeft_X2_write : GoodIn wsX2_climbFromLeft (wsV RX2 28 RX2 yX2_write wsX2_write) := goodIn_app (goodIn_of _ (by decide +kernel)) ggX2_climbFromLeft_X2_write
theorem dX2_climbFromLeft_0 : decode cX2_climbFromLeft 0 = .ok (.iconst 1, 1) := by decide +kernel
theorem dX2_climbFromLeft_1 : decode cX2_climbFromLeft 1 = .ok (.istore_n 1, 1) := by decide +kernel
theorem dX2_climbFromLeft_2 : decode cX2_climbFromLeft 2 = .ok (.iload_n 1, 1) := by decide +kernel
theorem dX2_climbFromLeft_3 : decode cX2_climbFromLeft 3 = .ok (.sipush 201, 3) := by decide +kernel
theorem dX2_climbFromLeft_6 : decode cX2_climbFromLeft 6 = .ok (.if_icmp .ge 29, 3) := by decide +kernel
theorem dX2_climbFromLeft_9 : decode cX2_climbFromLeft 9 = .ok (.aload_n 0, 1) := by decide +kernel
theorem dX2_climbFromLeft_10 : decode cX2_climbFromLeft 10 = .ok (.iload_n 1, 1) := by decide +kernel
theorem dX2_climbFromLeft_11 : decode cX2_climbFromLeft 11 = .ok (.aload_n 0, 1) := by decide +kernel
theorem dX2_climbFromLeft_12 : decode cX2_climbFromLeft 12 = .ok (.iload_n 1, 1) := by decide +kernel
theorem dX2_climbFromLeft_13 : decode cX2_climbFromLeft 13 = .ok (.invokevirtual 24, 3) := by decide +kernel
theorem dX2_climbFromLeft_16 : decode cX2_climbFromLeft 16 = .ok (.aload_n 0, 1) := by decide +kernel
theorem dX2_climbFromLeft_17 : decode cX2_climbFromLeft 17 = .ok (.iload_n 1, 1) := by decide +kernel
theorem dX2_climbFromLeft_18 : decode cX2_climbFromLeft 18 = .ok (.iconst 1, 1) := by decide +kernel
theorem dX2_climbFromLeft_19 : decode cX2_climbFromLeft 19 = .ok (.isub, 1) := by decide +kernel
theorem dX2_climbFromLeft_20 : decode cX2_climbFromLeft 20 = .ok (.invokevirtual 24, 3) := by decide +kernel
theorem dX2_climbFromLeft_23 : decode cX2_climbFromLeft 23 = .ok (.invokestatic 21, 3) := by decide +kernel
theorem dX2_climbFromLeft_26 : decode cX2_climbFromLeft 26 = .ok (.invokevirtual 28, 3) := by decide +kernel
theorem dX2_climbFromLeft_29 : decode cX2_climbFromLeft 29 = .ok (.iinc 1 1, 3) := by decide +kernel
theorem dX2_climbFromLeft_32 : decode cX2_climbFromLeft 32 = .ok (.goto (-30), 3) := by decide +kernel
theorem dX2_climbFromLeft_35 : decode cX2_climbFromLeft 35 = .ok (.return_, 1) := by decide +kernel
set_option maxRecDepth 20000 in
theorem ggX2_climbFromRight_X2_at : GoodIn wsX2_climbFromRight wsX2_at := goodIn_r _ [9, 10, 18] (by decide +kernel) (by decide +kernel)
set_option maxRecDepth 20000 in
theorem gX2_climbFromRight_X2_at : GoodIn wsX2_climbFromRight (wsV RX2 24 RX2 yX2_at wsX2_at) := goodIn_app (goodIn_of _ (by decide +kernel)) ggX2_climbFromRight_X2_at
set_option maxRecDepth 20000 in
theorem ggX2_climbFromRight_X2_write : GoodIn wsX2_climbFromRight wsX2_write := goodIn_r _ [14, 10, 15, 16, 3, 17, 1, 2, 4, 18] (by decide +kernel) (by decide +kernel)
set_option maxRecDepth 20000 in
theorem gX2_climbFromRight_X2_write : GoodIn wsX2_climbFromRight (wsV RX2 28 RX2 yX2_write wsX2_write) := goodIn_app (goodIn_of _ (by decide +kernel)) ggX2_climbFromRight_X2_write
theorem dX2_climbFromRight_0 : decode cX2_climbFromRight 0 = .ok (.sipush 199, 3) := by decide +kernel
theorem dX2_climbFromRight_3 : decode cX2_climbFromRight 3 = .ok (.istore_n 1, 1) := by decide +kernel
theorem dX2_climbFromRight_4 : decode cX2_climbFromRight 4 = .ok (.iload_n 1, 1) := by decide +kernel
theorem dX2_climbFromRight_5 : decode cX2_climbFromRight 5 = .ok (.ifCond .lt 29, 3) := by decide +kernel
theorem dX2_climbFromRight_8 : decode cX2_climbFromRight 8 = .ok (.aload_n 0, 1) := by decide +kernel
theorem dX2_climbFromRight_9 : decode cX2_climbFromRight 9 = .ok (.iload_n 1, 1) := by decide +kernel
theorem dX2_climbFromRight_10 : decode cX2_climbFromRight 10 = .ok (.aload_n 0, 1) := by decide +kernel
theorem dX2_climbFromRight_11 : decode cX2_climbFromRight 11 = .ok (.iload_n 1, 1) := by decide +kernel
theorem dX2_climbFromRight_12 : decode cX2_climbFromRight 12 = .ok (.invokevirtual 24, 3) := by decide +kernel
theorem dX2_climbFromRight_15 : decode cX2_climbFromRight 15 = .ok (.aload_n 0, 1) := by decide +kernel
theorem dX2_climbFromRight_16 : decode cX2_climbFromRight 16 = .ok (.iload_n 1, 1) := by decide +kernel
theorem dX2_climbFromRight_17 : decode cX2_climbFromRight 17 = .ok (.iconst 1, 1) := by decide +kernel
theorem dX2_climbFromRight_18 : decode cX2_climbFromRight 18 = .ok (.iadd, 1) := by decide +kernel
theorem dX2_climbFromRight_19 : decode cX2_climbFromRight 19 = .ok (.invokevirtual 24, 3) := by decide +kernel
theorem dX2_climbFromRight_22 : decode cX2_climbFromRight 22 = .ok (.invokestatic 21, 3) := by decide +kernel
theorem dX2_climbFromRight_25 : decode cX2_climbFromRight 25 = .ok (.invokevirtual 28, 3) := by decide +kernel
theorem dX2_climbFromRight_28 : decode cX2_climbFromRight 28 = .ok (.iinc 1 (-1), 3) := by decide +kernel
theorem dX2_climbFromRight_31 : decode cX2_climbFromRight 31 = .ok (.goto (-27), 3) := by decide +kernel
theorem dX2_climbFromRight_34 : decode cX2_climbFromRight 34 = .ok (.return_, 1) := by decide +kernel
set_option maxRecDepth 20000 in
theorem ggX2_addUp_X3_isPoint : GoodIn wsX2_addUp wsX3_isPoint := goodIn_r _ [3] (by decide +kernel) (by decide +kernel)
set_option maxRecDepth 20000 in
theorem gX2_addUp_X3_isPoint_n32 : GoodIn wsX2_addUp (wsX3_isPoint) := ggX2_addUp_X3_isPoint
set_option maxRecDepth 20000 in
theorem ggX2_addUp_X2_at : GoodIn wsX2_addUp wsX2_at := goodIn_r _ [8, 9, 21] (by decide +kernel) (by decide +kernel)
set_option maxRecDepth 20000 in
theorem gX2_addUp_X2_at : GoodIn wsX2_addUp (wsV RX2 24 RX2 yX2_at wsX2_at) := goodIn_app (goodIn_of _ (by decide +kernel)) ggX2_addUp_X2_at
set_option maxRecDepth 20000 in
theorem ggX2_addUp_X2_write : GoodIn wsX2_addUp wsX2_write := goodIn_r _ [13, 9, 14, 15, 16, 17, 18, 19, 20, 21] (by decide +kernel) (by decide +kernel)
set_option maxRecDepth 20000 in
theorem gX2_addUp_X2_write : GoodIn wsX2_addUp (wsV RX2 28 RX2 yX2_write wsX2_write) := goodIn_app (goodIn_of _ (by decide +kernel)) ggX2_addUp_X2_write
theorem dX2_addUp_0 : decode cX2_addUp 0 = .ok (.iconst 0, 1) := by decide +kernel
theorem dX2_addUp_1 : decode cX2_addUp 1 = .ok (.istore_n 1, 1) := by decide +kernel
theorem dX2_addUp_2 : decode cX2_addUp 2 = .ok (.iconst 0, 1) := by decide +kernel
theorem dX2_addUp_3 : decode cX2_addUp 3 = .ok (.istore_n 2, 1) := by decide +kernel
theorem dX2_addUp_4 : decode cX2_addUp 4 = .ok (.iload_n 2, 1) := by decide +kernel
theorem dX2_addUp_5 : decode cX2_addUp 5 = .ok (.sipush 201, 3) := by decide +kernel
theorem dX2_addUp_8 : decode cX2_addUp 8 = .ok (.if_icmp .ge 30, 3) := by decide +kernel
theorem dX2_addUp_11 : decode cX2_addUp 11 = .ok (.iload_n 2, 1) := by decide +kernel
theorem dX2_addUp_12 : decode cX2_addUp 12 = .ok (.invokestatic 32, 3) := by decide +kernel
theorem dX2_addUp_15 : decode cX2_addUp 15 = .ok (.ifCond .ne 11, 3) := by decide +kernel
theorem dX2_addUp_18 : decode cX2_addUp 18 = .ok (.iload_n 1, 1) := by decide +kernel
theorem dX2_addUp_19 : decode cX2_addUp 19 = .ok (.aload_n 0, 1) := by decide +kernel
theorem dX2_addUp_20 : decode cX2_addUp 20 = .ok (.iload_n 2, 1) := by decide +kernel
theorem dX2_addUp_21 : decode cX2_addUp 21 = .ok (.invokevirtual 24, 3) := by decide +kernel
theorem dX2_addUp_24 : decode cX2_addUp 24 = .ok (.iadd, 1) := by decide +kernel
theorem dX2_addUp_25 : decode cX2_addUp 25 = .ok (.istore_n 1, 1) := by decide +kernel
theorem dX2_addUp_26 : decode cX2_addUp 26 = .ok (.aload_n 0, 1) := by decide +kernel
theorem dX2_addUp_27 : decode cX2_addUp 27 = .ok (.iload_n 2, 1) := by decide +kernel
theorem dX2_addUp_28 : decode cX2_addUp 28 = .ok (.iload_n 1, 1) := by decide +kernel
theorem dX2_addUp_29 : decode cX2_addUp 29 = .ok (.invokevirtual 28, 3) := by decide +kernel
theorem dX2_addUp_32 : decode cX2_addUp 32 = .ok (.iinc 2 1, 3) := by decide +kernel
theorem dX2_addUp_35 : decode cX2_addUp 35 = .ok (.goto (-31), 3) := by decide +kernel
theorem dX2_addUp_38 : decode cX2_addUp 38 = .ok (.return_, 1) := by decide +kernel
set_option maxRecDepth 20000 in
theorem ggX2_mirrorOf_X2_at : GoodIn wsX2_mirrorOf wsX2_at := goodIn_r _ [5, 6, 18] (by decide +kernel) (by decide +kernel)
set_option maxRecDepth 20000 in
theorem gX2_mirrorOf_X2_at : GoodIn wsX2_mirrorOf (wsV RX2 24 RX2 yX2_at wsX2_at) := goodIn_app (goodIn_of _ (by decide +kernel)) ggX2_mirrorOf_X2_at
set_option maxRecDepth 20000 in
theorem ggX2_mirrorOf_X2_write : GoodIn wsX2_mirrorOf wsX2_write := goodIn_r _ [10, 6, 11, 12, 13, 14, 15, 16, 17, 18] (by decide +kernel) (by decide +kernel)
set_option maxRecDepth 20000 in
theorem gX2_mirrorOf_X2_write : GoodIn wsX2_mirrorOf (wsV RX2 28 RX2 yX2_write wsX2_write) := goodIn_app (goodIn_of _ (by decide +kernel)) ggX2_mirrorOf_X2_write
theorem dX2_mirrorOf_0 : decode cX2_mirrorOf 0 = .ok (.iconst 0, 1) := by decide +kernel
theorem dX2_mirrorOf_1 : decode cX2_mirrorOf 1 = .ok (.istore_n 2, 1) := by decide +kernel
theorem dX2_mirrorOf_2 : decode cX2_mirrorOf 2 = .ok (.iload_n 2, 1) := by decide +kernel
theorem dX2_mirrorOf_3 : decode cX2_mirrorOf 3 = .ok (.sipush 201, 3) := by decide +kernel
theorem dX2_mirrorOf_6 : decode cX2_mirrorOf 6 = .ok (.if_icmp .ge 23, 3) := by decide +kernel
theorem dX2_mirrorOf_9 : decode cX2_mirrorOf 9 = .ok (.aload_n 0, 1) := by decide +kernel
theorem dX2_mirrorOf_10 : decode cX2_mirrorOf 10 = .ok (.iload_n 2, 1) := by decide +kernel
theorem dX2_mirrorOf_11 : decode cX2_mirrorOf 11 = .ok (.aload_n 1, 1) := by decide +kernel
theorem dX2_mirrorOf_12 : decode cX2_mirrorOf 12 = .ok (.sipush 200, 3) := by decide +kernel
theorem dX2_mirrorOf_15 : decode cX2_mirrorOf 15 = .ok (.iload_n 2, 1) := by decide +kernel
theorem dX2_mirrorOf_16 : decode cX2_mirrorOf 16 = .ok (.isub, 1) := by decide +kernel
theorem dX2_mirrorOf_17 : decode cX2_mirrorOf 17 = .ok (.invokevirtual 24, 3) := by decide +kernel
theorem dX2_mirrorOf_20 : decode cX2_mirrorOf 20 = .ok (.invokevirtual 28, 3) := by decide +kernel
theorem dX2_mirrorOf_23 : decode cX2_mirrorOf 23 = .ok (.iinc 2 1, 3) := by decide +kernel
theorem dX2_mirrorOf_26 : decode cX2_mirrorOf 26 = .ok (.goto (-24), 3) := by decide +kernel
theorem dX2_mirrorOf_29 : decode cX2_mirrorOf 29 = .ok (.return_, 1) := by decide +kernel
set_option maxRecDepth 20000 in
theorem ggX2_greatestNear_X2_greatest : GoodIn wsX2_greatestNear wsX2_greatest := goodIn_r _ [5, 6, 7, 8, 9, 10, 11, 12, 4, 13, 14, 22] (by decide +kernel) (by decide +kernel)
set_option maxRecDepth 20000 in
theorem gX2_greatestNear_X2_greatest : GoodIn wsX2_greatestNear (wsV RX2 36 RX2 yX2_greatest wsX2_greatest) := goodIn_app (goodIn_of _ (by decide +kernel)) ggX2_greatestNear_X2_greatest
set_option maxRecDepth 20000 in
theorem ggX2_greatestNear_X2_write : GoodIn wsX2_greatestNear wsX2_write := goodIn_r _ [18, 14, 19, 20, 8, 21, 6, 7, 9, 22] (by decide +kernel) (by decide +kernel)
set_option maxRecDepth 20000 in
theorem gX2_greatestNear_X2_write : GoodIn wsX2_greatestNear (wsV RX2 28 RX2 yX2_write wsX2_write) := goodIn_app (goodIn_of _ (by decide +kernel)) ggX2_greatestNear_X2_write
theorem dX2_greatestNear_0 : decode cX2_greatestNear 0 = .ok (.iconst 0, 1) := by decide +kernel
theorem dX2_greatestNear_1 : decode cX2_greatestNear 1 = .ok (.istore_n 3, 1) := by decide +kernel
theorem dX2_greatestNear_2 : decode cX2_greatestNear 2 = .ok (.iload_n 3, 1) := by decide +kernel
theorem dX2_greatestNear_3 : decode cX2_greatestNear 3 = .ok (.sipush 201, 3) := by decide +kernel
theorem dX2_greatestNear_6 : decode cX2_greatestNear 6 = .ok (.if_icmp .ge 24, 3) := by decide +kernel
theorem dX2_greatestNear_9 : decode cX2_greatestNear 9 = .ok (.aload_n 0, 1) := by decide +kernel
theorem dX2_greatestNear_10 : decode cX2_greatestNear 10 = .ok (.iload_n 3, 1) := by decide +kernel
theorem dX2_greatestNear_11 : decode cX2_greatestNear 11 = .ok (.aload_n 1, 1) := by decide +kernel
theorem dX2_greatestNear_12 : decode cX2_greatestNear 12 = .ok (.iload_n 3, 1) := by decide +kernel
theorem dX2_greatestNear_13 : decode cX2_greatestNear 13 = .ok (.iload_n 2, 1) := by decide +kernel
theorem dX2_greatestNear_14 : decode cX2_greatestNear 14 = .ok (.isub, 1) := by decide +kernel
theorem dX2_greatestNear_15 : decode cX2_greatestNear 15 = .ok (.iload_n 3, 1) := by decide +kernel
theorem dX2_greatestNear_16 : decode cX2_greatestNear 16 = .ok (.iload_n 2, 1) := by decide +kernel
theorem dX2_greatestNear_17 : decode cX2_greatestNear 17 = .ok (.iadd, 1) := by decide +kernel
theorem dX2_greatestNear_18 : decode cX2_greatestNear 18 = .ok (.invokevirtual 36, 3) := by decide +kernel
theorem dX2_greatestNear_21 : decode cX2_greatestNear 21 = .ok (.invokevirtual 28, 3) := by decide +kernel
theorem dX2_greatestNear_24 : decode cX2_greatestNear 24 = .ok (.iinc 3 1, 3) := by decide +kernel
theorem dX2_greatestNear_27 : decode cX2_greatestNear 27 = .ok (.goto (-25), 3) := by decide +kernel
theorem dX2_greatestNear_30 : decode cX2_greatestNear 30 = .ok (.return_, 1) := by decide +kernel
set_option maxRecDepth 20000 in
theorem ggX2_leastNear_X2_least : GoodIn wsX2_leastNear wsX2_least := goodIn_r _ [5, 6, 7, 8, 9, 10, 11, 12, 13, 14, 15, 4, 16, 17, 22] (by decide +kernel) (by decide +kernel)
set_option maxRecDepth 20000 in
theorem gX2_leastNear_X2_least : GoodIn wsX2_leastNear (wsV RX2 39 RX2 yX2_least wsX2_least) := goodIn_app (goodIn_of _ (by decide +kernel)) ggX2_leastNear_X2_least
set_option maxRecDepth 20000 in
theorem ggX2_leastNear_X2_write : GoodIn wsX2_leastNear wsX2_write := goodIn_r _ [21, 17, 10, 11, 8, 12, 6, 7, 9, 22] (by decide +kernel) (by decide +kernel)
set_option maxRecDepth 20000 in
theorem gX2_leastNear_X2_write : GoodIn wsX2_leastNear (wsV RX2 28 RX2 yX2_write wsX2_write) := goodIn_app (goodIn_of _ (by decide +kernel)) ggX2_leastNear_X2_write
theorem dX2_leastNear_0 : decode cX2_leastNear 0 = .ok (.iconst 0, 1) := by decide +kernel
theorem dX2_leastNear_1 : decode cX2_leastNear 1 = .ok (.istore_n 3, 1) := by decide +kernel
theorem dX2_leastNear_2 : decode cX2_leastNear 2 = .ok (.iload_n 3, 1) := by decide +kernel
theorem dX2_leastNear_3 : decode cX2_leastNear 3 = .ok (.sipush 201, 3) := by decide +kernel
theorem dX2_leastNear_6 : decode cX2_leastNear 6 = .ok (.if_icmp .ge 24, 3) := by decide +kernel
theorem dX2_leastNear_9 : decode cX2_leastNear 9 = .ok (.aload_n 0, 1) := by decide +kernel
theorem dX2_leastNear_10 : decode cX2_leastNear 10 = .ok (.iload_n 3, 1) := by decide +kernel
theorem dX2_leastNear_11 : decode cX2_leastNear 11 = .ok (.aload_n 1, 1) := by decide +kernel
theorem dX2_leastNear_12 : decode cX2_leastNear 12 = .ok (.iload_n 3, 1) := by decide +kernel
theorem dX2_leastNear_13 : decode cX2_leastNear 13 = .ok (.iload_n 2, 1) := by decide +kernel
theorem dX2_leastNear_14 : decode cX2_leastNear 14 = .ok (.isub, 1) := by decide +kernel
theorem dX2_leastNear_15 : decode cX2_leastNear 15 = .ok (.iload_n 3, 1) := by decide +kernel
theorem dX2_leastNear_16 : decode cX2_leastNear 16 = .ok (.iload_n 2, 1) := by decide +kernel
theorem dX2_leastNear_17 : decode cX2_leastNear 17 = .ok (.iadd, 1) := by decide +kernel
theorem dX2_leastNear_18 : decode cX2_leastNear 18 = .ok (.invokevirtual 39, 3) := by decide +kernel
theorem dX2_leastNear_21 : decode cX2_leastNear 21 = .ok (.invokevirtual 28, 3) := by decide +kernel
theorem dX2_leastNear_24 : decode cX2_leastNear 24 = .ok (.iinc 3 1, 3) := by decide +kernel
theorem dX2_leastNear_27 : decode cX2_leastNear 27 = .ok (.goto (-25), 3) := by decide +kernel
theorem dX2_leastNear_30 : decode cX2_leastNear 30 = .ok (.return_, 1) := by decide +kernel
set_option maxRecDepth 20000 in
theorem ggX3_init_X0_init : GoodIn wsX3_init wsX0_init := goodIn_r _ [21, 22, 2, 3, 23, 24, 41] (by decide +kernel) (by decide +kernel)
set_option maxRecDepth 20000 in
theorem gX3_init_X0_init_n21 : GoodIn wsX3_init (wsX0_init) := ggX3_init_X0_init
set_option maxRecDepth 20000 in
theorem ggX3_init_X2_init : GoodIn wsX3_init wsX2_init := goodIn_r _ [26, 27, 2, 3, 18, 28, 42] (by decide +kernel) (by decide +kernel)
set_option maxRecDepth 20000 in
theorem gX3_init_X2_init_n26 : GoodIn wsX3_init (wsX2_init) := ggX3_init_X2_init
set_option maxRecDepth 20000 in
theorem ggX3_init_X1_init : GoodIn wsX3_init wsX1_init := goodIn_r _ [30, 31, 2, 3, 18, 32, 33, 34, 43, 44, 45] (by decide +kernel) (by decide +kernel)
set_option maxRecDepth 20000 in
theorem gX3_init_X1_init_n33 : GoodIn wsX3_init (wsX1_init) := ggX3_init_X1_init
end
section
/-! THE WALK'S OWN ROWS: cells one by one, what the tables know in one bundle (KB), contracts over them -/
def TY (T : Nat → ClassId) : List (ClassId × FieldType) := [(T 0, .boolean), (T 1, .int), (T 2, .object RX0), (T 3, .object RX2), (T 4, .array .boolean), (T 5, .array .int), (T 6, .long), (T 7, .double)]
abbrev pAt (D : va_G) (H : Heap) (a : Nat) (e : va_E) : Prop := va_at D vwCl (a, e) H
/-- a row of numbers; a row of references; an object -/
abbrev eN (c : ClassId) (n : Nat) (f : Nat → Int32) : va_E := .inl (c, n, .inl f)
abbrev eL (c : ClassId) (n : Nat) (f : Nat → Int64) : va_E := .inl (c, n, .inr (.inl f))
abbrev eD (c : ClassId) (n : Nat) (f : Nat → UInt64) : va_E := .inl (c, n, .inr (.inr (.inr (.inl f))))
abbrev eR (c : ClassId) (n : Nat) (f : Nat → Option Nat) : va_E := .inl (c, n, .inr (.inr (.inr (.inr f))))
abbrev eO (ci : Nat) (fs : List Value) : va_E := .inr (ci, fs)
theorem pone {D : va_G} {H : Heap} {a : Nat} {e : va_E} (h : pAt D H a e) : va_P D vwCl [(a, e)] H := fun k q hk => by
  cases k with
  | zero => cases hk; exact h
  | succ k => simp at hk
theorem pdone {A : Nat → Prop} {a : Nat} {e : va_E} (h : A a) : va_D A [(a, e)] := by
  refine ⟨fun i j x y hi hj _ => ?_, fun k q hk => ?_⟩
  · have h1 : i < 1 := (List.getElem?_eq_some_iff.mp hi).1
    have h2 : j < 1 := (List.getElem?_eq_some_iff.mp hj).1
    omega
  · cases k with
    | zero => cases hk; exact h
    | succ k => simp at hk
theorem pfst {D : va_G} {H : Heap} {a : Nat} {e : va_E} {ws : va_W} (h : va_P D vwCl ((a, e) :: ws) H) : pAt D H a e := h 0 (a, e) rfl
/-- what the tables say, all that a method's own list of words doesn't carry -/
def KN (U : State) : Prop := va_Nw (.methodLinkNest RX1 46 yX3_isPoint RX3) U ∧ va_Nw (.methodLinkNest RX2 32 yX3_isPoint RX3) U ∧ va_Nw (.methodLinkNest RX3 21 yX0_init RX3) U ∧ va_Nw (.methodLinkNest RX3 26 yX2_init RX3) U ∧ va_Nw (.methodLinkNest RX3 33 yX1_init RX3) U
def KB (D : va_G) (T : Nat → ClassId) (U : State) : Prop := va_K D vwCl (TY T) U ∧ (va_AO RX0 U ∧ va_AO RX2 U ∧ va_AOA .boolean U ∧ va_AOA .int U) ∧ KN U
theorem KN.warm {s U : State} (h : KN s) (hW : s.WarmedH U.vm) : KN U := ⟨va_Nw.warmM hW h.1, va_Nw.warmM hW h.2.1, va_Nw.warmM hW h.2.2.1, va_Nw.warmM hW h.2.2.2.1, va_Nw.warmM hW h.2.2.2.2⟩
theorem KB.warm {D : va_G} {T : Nat → ClassId} {s U : State} (h : KB D T s) (hW : s.WarmedH U.vm) : KB D T U := ⟨va_K.moved hW.alike h.1, ⟨va_AO.moved hW.alike h.2.1.1, va_AO.moved hW.alike h.2.1.2.1, va_AOA.moved hW.alike h.2.1.2.2.1, va_AOA.moved hW.alike h.2.1.2.2.2⟩, h.2.2.warm hW⟩
theorem KN.same {s U : State} (h : KN s) (e : s.vm = U.vm) : KN U := ⟨va_Nw.same rfl e h.1, va_Nw.same rfl e h.2.1, va_Nw.same rfl e h.2.2.1, va_Nw.same rfl e h.2.2.2.1, va_Nw.same rfl e h.2.2.2.2⟩
theorem KB.same {D : va_G} {T : Nat → ClassId} {s U : State} (h : KB D T s) (e : s.vm = U.vm) : KB D T U := by
  have ha : s.vm.Alike U.vm := by rw [← e]; exact Vm.Alike.refl s.vm
  exact ⟨va_K.moved ha h.1, ⟨va_AO.moved ha h.2.1.1, va_AO.moved ha h.2.1.2.1, va_AOA.moved ha h.2.1.2.2.1, va_AOA.moved ha h.2.1.2.2.2⟩, h.2.2.same e⟩
/-- a contract's start: the arguments, the tables, the cells -/
def cP (D : va_G) (T : Nat → ClassId) (av : List Value) (P : Heap → Prop) : Array Value → State → Prop := fun v U => v = av.toArray ∧ KB D T U ∧ P U.heap
theorem cP.blind {D : va_G} {T : Nat → ClassId} {av : List Value} {P : Heap → Prop} : FrameBlind (cP D T av P) := fun _ _ _ _ h => ⟨h.1, h.2.1.same rfl, h.2.2⟩
theorem cP.pre {D : va_G} {T : Nat → ClassId} {av : List Value} {P : Heap → Prop} {s : State} {H : Heap} (hK : KB D T s) (hP : P H) : ∀ U : State, U.heap = H → s.WarmedH U.vm → cP D T av P av.toArray U := fun U hU hW => ⟨rfl, hK.warm hW, by rw [hU]; exact hP⟩
theorem recvO {D : va_G} {T : Nat → ClassId} {s : State} {H : Heap} {a ci : Nat} {fs : List Value} {q : vw_C} (hK : KB D T s) (h : pAt D H a (eO ci fs)) (hc : vwCl[ci]? = some q) : ∃ cell : Cell, H[a]? = some cell ∧ cell.vm.isStatics = false ∧ s.vm.findClass q.1 = some cell.cls := va_recv hK.1 (pone h) hc (q0 := 0) rfl
theorem preS {D : va_G} {T : Nat → ClassId} {s : State} {H : Heap} {av : List Value} {P : Heap → Prop} (hK : KB D T s) (hP : P H) : PreS s H (cP D T av P) av := ⟨cP.blind, cP.pre hK hP⟩
theorem preV {D : va_G} {T : Nat → ClassId} {s : State} {H : Heap} {av : List Value} {P : Heap → Prop} {b ci : Nat} {fs : List Value} {q : vw_C} (hK : KB D T s) (h : pAt D H b (eO ci fs)) (hc : vwCl[ci]? = some q) (hP : P H) : PreV s H q.1 b (cP D T (.ref b :: av) P) av := ⟨cP.blind, recvO hK h hc, cP.pre hK hP⟩
/-- cells that stay -/
theorem pAt.kept {D : va_G} {H H1 : Heap} {a : Nat} {e : va_E} (h : pAt D H a e) (hq : H1[a]? = H[a]?) : pAt D H1 a e := va_at.kept h hq
theorem pAt.lt {D : va_G} {H : Heap} {a : Nat} {e : va_E} (h : pAt D H a e) : a < H.size := va_at.lt h
theorem pAt.ne {D : va_G} {H H1 : Heap} {a b : Nat} {e : va_E} (h : pAt D H a e) (oq : ∀ q : Nat, q ≠ b → H1[q]? = H[q]?) (hn : a ≠ b) : pAt D H1 a e := h.kept (oq a hn)
section FWR
variable {p : Program} {l : Launch} {e : Env} {R : Room} {s : State} {m : MethodId} {args : Array Value} {below : List Frame} {meth : Method} {c : Code} {H : Heap} {locs : List Loc} {cells slots : Nat} {Q : State → Prop}
variable {cc : ByteArray} {pc : Nat} {ls : Array Slot} {rest : List Value} {D : va_G} {T : Nat → ClassId} {A : Nat → Prop} {a : Nat} {H0 : Heap}
theorem q_zald (hx : p.tables.exec = Jvm.exec) (hb : c.code = cc) (hK : KB D T s) {n : Nat} {f : Nat → Int32} (ha : pAt D H a (eN (T 0) n f)) {i : Int32} (j : Nat) (hi : i = nI j) (hj : j < n) (hn : n < 2 ^ 31) (hdg : decode cc pc = .ok (.baload, 1))
    (kk : W p l e R s m args below meth c H locs cells slots Q (F0 m (pc + 1) ls (.int (f j) :: rest))) : W p l e R s m args below meth c H locs cells slots Q (F0 m pc ls (.int i :: .ref a :: rest)) := by
  subst hi
  refine va_zald hx hb hK.1 (pone ha) 0 0 rfl rfl (vp_in_nI hj hn) hdg ?_
  rw [nI_clamp (by omega)]
  exact kk
theorem q_iald (hx : p.tables.exec = Jvm.exec) (hb : c.code = cc) (hK : KB D T s) {n : Nat} {f : Nat → Int32} (ha : pAt D H a (eN (T 1) n f)) {i : Int32} (j : Nat) (hi : i = nI j) (hj : j < n) (hn : n < 2 ^ 31) (hdg : decode cc pc = .ok (.iaload, 1))
    (kk : W p l e R s m args below meth c H locs cells slots Q (F0 m (pc + 1) ls (.int (f j) :: rest))) : W p l e R s m args below meth c H locs cells slots Q (F0 m pc ls (.int i :: .ref a :: rest)) := by
  subst hi
  refine va_iald hx hb hK.1 (pone ha) 0 1 rfl rfl (vp_in_nI hj hn) hdg ?_
  rw [nI_clamp (by omega)]
  exact kk
theorem q_lald (hx : p.tables.exec = Jvm.exec) (hb : c.code = cc) (hK : KB D T s) {n : Nat} {f : Nat → Int64} (ha : pAt D H a (eL (T 6) n f)) {i : Int32} (j : Nat) (hi : i = nI j) (hj : j < n) (hn : n < 2 ^ 31) (hdg : decode cc pc = .ok (.laload, 1))
    (kk : W p l e R s m args below meth c H locs cells slots Q (F0 m (pc + 1) ls (.long (f j) :: rest))) : W p l e R s m args below meth c H locs cells slots Q (F0 m pc ls (.int i :: .ref a :: rest)) := by
  subst hi
  refine va_lald hx hb hK.1 (pone ha) 0 6 rfl rfl (vp_in_nI hj hn) hdg ?_
  rw [nI_clamp (by omega)]
  exact kk
theorem q_dald (hx : p.tables.exec = Jvm.exec) (hb : c.code = cc) (hK : KB D T s) {n : Nat} {f : Nat → UInt64} (ha : pAt D H a (eD (T 7) n f)) {i : Int32} (j : Nat) (hi : i = nI j) (hj : j < n) (hn : n < 2 ^ 31) (hdg : decode cc pc = .ok (.daload, 1))
    (kk : W p l e R s m args below meth c H locs cells slots Q (F0 m (pc + 1) ls (.double (f j) :: rest))) : W p l e R s m args below meth c H locs cells slots Q (F0 m pc ls (.int i :: .ref a :: rest)) := by
  subst hi
  refine va_dald hx hb hK.1 (pone ha) 0 7 rfl rfl (vp_in_nI hj hn) hdg ?_
  rw [nI_clamp (by omega)]
  exact kk
/-- an element of a row of references (ti: the row's type, by its place in TY) -/
theorem q_aald (hx : p.tables.exec = Jvm.exec) (hb : c.code = cc) (hK : KB D T s) (ti : Nat) {cA : ClassId} {ty : FieldType} (ht : (TY T)[ti]? = some (cA, ty)) (hty : ty.isReference = true) {n : Nat} {f : Nat → Option Nat} (ha : pAt D H a (eR cA n f)) {i : Int32} (j : Nat) (hi : i = nI j) (hj : j < n) (hn : n < 2 ^ 31) {b : Nat} (hf : f j = some b) (hdg : decode cc pc = .ok (.aaload, 1))
    (kk : W p l e R s m args below meth c H locs cells slots Q (F0 m (pc + 1) ls (.ref b :: rest))) : W p l e R s m args below meth c H locs cells slots Q (F0 m pc ls (.int i :: .ref a :: rest)) := by
  subst hi
  have hin : vp_in (nI j) n := vp_in_nI hj hn
  refine W.aald (v := .ref b) (ty := ty) hx hb (pone ha 0 _ rfl) ((hK.1.2 ti _ ht).1 n (fun j => va_rf (f j))) hty (fun q => by cases q) (by show ¬ (nI j < 0 ∨ (arrV _ _ _).slots.size ≤ _); rw [arrV_size]; exact hin) ?_ rfl rfl hdg kk
  show (arrV _ _ _).slots[_]? = _
  rw [nI_clamp (by omega), arrV_read _ _ hj, hf]
  rfl
theorem q_len (hx : p.tables.exec = Jvm.exec) (hb : c.code = cc) (hK : KB D T s) (ti : Nat) {cA : ClassId} {ty : FieldType} (ht : (TY T)[ti]? = some (cA, ty)) {n : Nat} {y : (Nat → Int32) ⊕ (Nat → Int64) ⊕ (Nat → UInt32) ⊕ (Nat → UInt64) ⊕ (Nat → Option Nat)} (ha : pAt D H a (.inl (cA, n, y))) (hdg : decode cc pc = .ok (.arraylength, 1))
    (kk : W p l e R s m args below meth c H locs cells slots Q (F0 m (pc + 1) ls (.int (nI n) :: rest))) : W p l e R s m args below meth c H locs cells slots Q (F0 m pc ls (.ref a :: rest)) := va_alen hx hb hK.1 (pone ha) 0 ti rfl ht rfl hdg kk
theorem q_zast (hx : p.tables.exec = Jvm.exec) (hb : c.code = cc) (hK : KB D T s) {n : Nat} {f : Nat → Int32} (ha : pAt D H a (eN (T 0) n f)) {i x : Int32} (j : Nat) (hi : i = nI j) (hj : j < n) (hn : n < 2 ^ 31) (hv : vp_nar .boolean x = x) (hS : va_S A H0 H locs) (hA : A a) (hdg : decode cc pc = .ok (.bastore, 1))
    (kk : ∀ (H1 : Heap) (locs1 : List Loc), pAt D H1 a (eN (T 0) n (upd f j x)) → H1.size = H.size → (∀ q : Nat, q ≠ a → H1[q]? = H[q]?) → va_S A H0 H1 locs1 → W p l e R s m args below meth c H1 locs1 cells slots Q (F0 m (pc + 1) ls rest)) : W p l e R s m args below meth c H locs cells slots Q (F0 m pc ls (.int x :: .int i :: .ref a :: rest)) := by
  subst hi
  have hin : vp_in (nI j) n := vp_in_nI hj hn
  refine W.zast hx hb (pone ha 0 _ rfl) ((hK.1.2 0 _ rfl).1 n (fun j => .int (f j))) (fun q => by cases q) (by show ¬ (nI j < 0 ∨ (arrV _ _ _).slots.size ≤ _); rw [arrV_size]; exact hin) rfl rfl hdg fun H1 e z oq => ?_
  refine kk H1 _ ?_ z oq (hS.put z oq hA)
  show H1[a]? = some (vp_cell _ _)
  rw [e, vp_cell_i, vp_cell_i, arrV_store]
  congr 2
  funext q
  rw [nI_clamp (by omega)]
  have hx2 : narrow .boolean (.int x) = .int x := by
    have h9 : narrow .boolean (.int x) = .int (vp_nar .boolean x) := rfl
    rw [h9, hv]
  rw [hx2]
  by_cases hq : q = j
  · simp [updV, upd, hq]
  · simp [updV, upd, hq]
theorem q_iast (hx : p.tables.exec = Jvm.exec) (hb : c.code = cc) (hK : KB D T s) {n : Nat} {f : Nat → Int32} (ha : pAt D H a (eN (T 1) n f)) {i x : Int32} (j : Nat) (hi : i = nI j) (hj : j < n) (hn : n < 2 ^ 31) (hS : va_S A H0 H locs) (hA : A a) (hdg : decode cc pc = .ok (.iastore, 1))
    (kk : ∀ (H1 : Heap) (locs1 : List Loc), pAt D H1 a (eN (T 1) n (upd f j x)) → H1.size = H.size → (∀ q : Nat, q ≠ a → H1[q]? = H[q]?) → va_S A H0 H1 locs1 → W p l e R s m args below meth c H1 locs1 cells slots Q (F0 m (pc + 1) ls rest)) : W p l e R s m args below meth c H locs cells slots Q (F0 m pc ls (.int x :: .int i :: .ref a :: rest)) := by
  subst hi
  have hin : vp_in (nI j) n := vp_in_nI hj hn
  refine W.iast hx hb (pone ha 0 _ rfl) ((hK.1.2 1 _ rfl).1 n (fun j => .int (f j))) (fun q => by cases q) (by show ¬ (nI j < 0 ∨ (arrV _ _ _).slots.size ≤ _); rw [arrV_size]; exact hin) rfl rfl hdg fun H1 e z oq => ?_
  refine kk H1 _ ?_ z oq (hS.put z oq hA)
  show H1[a]? = some (vp_cell _ _)
  rw [e, vp_cell_i, vp_cell_i, arrV_store]
  congr 2
  funext q
  rw [nI_clamp (by omega)]
  by_cases hq : q = j
  · simp [updV, upd, hq]
  · simp [updV, upd, hq]
theorem q_get (hx : p.tables.exec = Jvm.exec) (hb : c.code = cc) {own ref C : String} {Tb : u_T} {N ci index : Nat} {Ts : List Cond} (hts : ∀ w ∈ Ts, w.before args s = true) (hin : ∀ w ∈ u_ws C Tb N, w ∈ Ts) (hown : s.vm.findClass own = some m.cls) (hK : KB D T s) {fs : List Value} (ha : pAt D H a (eO ci fs)) (hc : vwCl[ci]? = some (C, Tb, N)) (k : Nat) (hk : k < N) (hlink : (Cond.fieldLink own index ref (Tb k).2.1 (Tb k).2.2.1).before args s = true) (hsame : ∀ x, s.fieldFound? (Tb k).1 (Tb k).2.1 (Tb k).2.2.1 = some x → s.fieldFound? ref (Tb k).2.1 (Tb k).2.2.1 = some x) {v : Value} (hv : fs[k]? = some v) (hdg : decode cc pc = .ok (.getfield index, 3))
    (kk : W p l e R s m args below meth c H locs cells slots Q (F0 m (pc + 3) ls (v :: rest))) : W p l e R s m args below meth c H locs cells slots Q (F0 m pc ls (.ref a :: rest)) := va_get hx hb hts hin hown hK.1 (pone ha) 0 rfl hc k hk hlink hsame hv hdg kk
end FWR
end
section
section FWR2
variable {p : Program} {l : Launch} {e : Env} {R : Room} {s : State} {m : MethodId} {args : Array Value} {below : List Frame} {meth : Method} {c : Code} {H : Heap} {locs : List Loc} {cells slots : Nat} {Q : State → Prop}
variable {cc : ByteArray} {pc : Nat} {ls : Array Slot} {rest : List Value} {D : va_G} {T : Nat → ClassId} {A : Nat → Prop} {a : Nat} {H0 : Heap}
theorem q_put (hexec : p.tables.exec = Jvm.exec) (hb : c.code = cc) {own ref C : String} {Tb : u_T} {N ci index : Nat} {Ts : List Cond} (hts : ∀ w ∈ Ts, w.before args s = true) (hin : ∀ w ∈ u_ws C Tb N, w ∈ Ts) (ty0 : Nat → FieldType) (hty : ∀ k, k < N → parseFieldDescriptor (Tb k).2.2.1 = some (ty0 k)) (hnm : ∀ a, a < N → ∀ b, b < N → a ≠ b → (Tb a).2.1 ≠ (Tb b).2.1) (hown : s.vm.findClass own = some m.cls) (hK : KB D T s) {fs : List Value} (ha : pAt D H a (eO ci fs)) (hc : vwCl[ci]? = some (C, Tb, N)) (k : Nat) (hk : k < N) (hlink : (Cond.fieldLink own index ref (Tb k).2.1 (Tb k).2.2.1).before args s = true) (hsame : ∀ x, s.fieldFound? (Tb k).1 (Tb k).2.1 (Tb k).2.2.1 = some x → s.fieldFound? ref (Tb k).2.1 (Tb k).2.2.1 = some x) (hfin : (Tb k).2.2.2 = false) {v : Value} (hn : narrow (ty0 k) v = v) (hfit : fits (ty0 k) v = true) (hl : k < fs.length) (hS0 : va_S A H0 H locs) (hA : A a)
    (hdg : decode cc pc = .ok (.putfield index, 3)) (kk : ∀ (H1 : Heap) (locs1 : List Loc), pAt D H1 a (eO ci (fs.set k v)) → (∀ q : Nat, q ≠ a → H1[q]? = H[q]?) → va_S A H0 H1 locs1 → W p l e R s m args below meth c H1 locs1 cells slots Q (F0 m (pc + 3) ls rest)) : W p l e R s m args below meth c H locs cells slots Q (F0 m pc ls (v :: .ref a :: rest)) := by
  have hd : parseFieldDescriptor (Tb k).2.2.1 = some (ty0 k) := hty k hk
  have hap := va_apart (own := own) hts hin ty0 hty hnm hK.1 hc
  obtain ⟨r, h1, cell, q1, q2, q3, q4⟩ := ha
  have hr : r = (C, Tb, N) := Option.some.inj (h1.symm.trans hc)
  subst hr
  obtain ⟨hS, hfc, kC, hkC, hkind⟩ := hK.1.1 ci _ hc
  obtain ⟨cf, kf, fi, f, hi, hsl⟩ := hS k hk
  have hlay := hts _ (hin _ (u_in_lay hk))
  unfold u_lay at hlay
  rw [if_neg (by rw [hfin]; decide)] at hlay
  have hst := (u_facts hfc hkC (u_lays hts hin hk) hi).1
  have h6 := u_store hfc hkC hkind hlay hi hd hn hfit
  refine W.putK hexec hb (f := f) ⟨hown, hlink, ⟨_, _, _, hsame _ hi⟩, hst⟩ (by rw [q2]; exact h6) q1 q3 (by rw [hsl]; exact k2_hasslot (q4 k hk)) rfl rfl hdg fun H' e1 e2 e3 => ?_
  rw [hsl] at e1 ⊢
  exact kk H' _ ⟨_, hc, t_OB.to (V := updV (vp_V fs) k v) ⟨_, e1, q2, q3, t_set q4 hap hk v⟩ (fun j _ => vp_updV_set hl v j)⟩ e3 (hS0.put e2 e3 hA)
/-- a counted loop: the invariant at i, from i0 to N; one turn; behind it -/
theorem q_for {ls0 : Array Slot} (I : Nat → Heap → List Loc → Array Slot → Prop) {N : Nat} (i0 : Nat) (hi0 : i0 ≤ N) (h0 : I i0 H locs ls0)
    (hstep : ∀ (i : Nat) (H : Heap) (locs : List Loc) (ls : Array Slot), i0 ≤ i ∧ i < N → I i H locs ls → (∀ (H' : Heap) (locs' : List Loc) (ls' : Array Slot), I (i + 1) H' locs' ls' → W p l e R s m args below meth c H' locs' cells slots Q (F0 m pc ls' [])) → W p l e R s m args below meth c H locs cells slots Q (F0 m pc ls []))
    (hexit : ∀ (H : Heap) (locs : List Loc) (ls : Array Slot), I N H locs ls → W p l e R s m args below meth c H locs cells slots Q (F0 m pc ls [])) : W p l e R s m args below meth c H locs cells slots Q (F0 m pc ls0 []) := by
  have key : ∀ (n i : Nat) (H : Heap) (locs : List Loc) (ls : Array Slot), i0 ≤ i → i ≤ N → N - i < n → I i H locs ls → W p l e R s m args below meth c H locs cells slots Q (F0 m pc ls []) := by
    intro n
    induction n with
    | zero => intro i _ _ _ _ _ h; exact absurd h (Nat.not_lt_zero _)
    | succ n ih =>
      intro i H locs ls hlo hi hn hI
      rcases Nat.lt_or_ge i N with h | h
      · exact hstep i H locs ls ⟨hlo, h⟩ hI fun H' locs' ls' hI' => ih (i + 1) H' locs' ls' (by omega) (by omega) (by omega) hI'
      · have hN : i = N := by omega
        subst hN
        exact hexit H locs ls hI
  exact key (N - i0 + 1) i0 H locs ls0 (Nat.le_refl _) hi0 (by omega) h0
end FWR2
theorem inc_1 (a : Nat) : nI a + Int32.ofInt 1 = nI (a + 1) := nI_1 a
theorem inc_2 (a : Nat) : nI a + Int32.ofInt 2 = nI (a + 2) := nI_add a 2
theorem inc_6 (a : Nat) : nI a + Int32.ofInt 6 = nI (a + 6) := nI_add a 6
theorem nc_le {a b : Nat} (ha : a < 2 ^ 31) (hb : b < 2 ^ 31) : nI a ≤ nI b ↔ a ≤ b := nI_leI ha hb
theorem nc_lt {a b : Nat} (ha : a < 2 ^ 31) (hb : b < 2 ^ 31) : nI a < nI b ↔ a < b := nI_ltI ha hb
theorem nc_eq {a b : Nat} (ha : a < 2 ^ 31) (hb : b < 2 ^ 31) : nI a = nI b ↔ a = b := nI_eq ha hb
theorem lv_to {ls : Array Slot} {nL : Nat} {l l' : List (Nat × Value)} (h : lv_has ls nL l) (e : l = l') : lv_has ls nL l' := e ▸ h
def jmax (x y : Int32) : Int32 := if x < y then y else x
def jmin (x y : Int32) : Int32 := if y < x then y else x
/-- f n (.. (f 0 a)) -/
def itr {α : Type} (f : Nat → α → α) : Nat → α → α
  | 0, a => a
  | n + 1, a => f n (itr f n a)
theorem itr_s {α : Type} (f : Nat → α → α) (n : Nat) (a : α) : itr f (n + 1) a = f n (itr f n a) := rfl
theorem itr_0 {α : Type} (f : Nat → α → α) (a : α) : itr f 0 a = a := rfl
/-- SETS, as the class reads and writes them: what GrainSet.holds and .write do -/
def holdZ (f : Nat → Int32) (g : Int32) : Int32 := if g < 0 then nI 0 else if nI 201 ≤ g then nI 0 else if f g.toNatClampNeg = 0 then nI 0 else nI 1
def wrZ (f : Nat → Int32) (g v : Int32) : Nat → Int32 := if g < 0 then f else if nI 201 ≤ g then f else upd f g.toNatClampNeg v
/-- a GrainSet at h, its row at a -/
def GS (D : va_G) (T : Nat → ClassId) (h a : Nat) (f : Nat → Int32) (H : Heap) : Prop := pAt D H h (eO 0 [.ref a]) ∧ pAt D H a (eN (T 0) 201 f) ∧ h ≠ a
theorem in_eq {g : Int32} (h : ¬ g < 0) : g = nI g.toNatClampNeg := by
  obtain ⟨j, hj, rfl⟩ := nI_of h
  rw [nI_clamp hj]
theorem in_lt {g : Int32} {n : Nat} (h : ¬ g < 0) (h2 : ¬ nI n ≤ g) : g.toNatClampNeg < n := by
  obtain ⟨j, hj, rfl⟩ := nI_of h
  rw [nI_clamp hj]
  rcases Nat.lt_or_ge j n with q | q
  · exact q
  · exact absurd (nI_le q hj) h2
theorem nar_holdZ (f : Nat → Int32) (g : Int32) : vp_nar .boolean (holdZ f g) = holdZ f g := by
  unfold holdZ
  split
  · rfl
  · split
    · rfl
    · split
      · rfl
      · rfl
def cntZ (f : Nat → Int32) (n : Nat) : Int32 := itr (fun i c => if holdZ f (nI i) = 0 then c else c + 1) n (nI 0)
theorem cntZ_s (f : Nat → Int32) (n : Nat) : cntZ f (n + 1) = if holdZ f (nI n) = 0 then cntZ f n else cntZ f n + 1 := rfl
def lenZ (f : Nat → Int32) (n : Nat) : Int32 := itr (fun i c => if holdZ f (nI (2 * i + 1)) = 0 then c else c + 1) n (nI 0)
theorem lenZ_s (f : Nat → Int32) (n : Nat) : lenZ f (n + 1) = if holdZ f (nI (2 * n + 1)) = 0 then lenZ f n else lenZ f n + 1 := rfl
theorem lt_pred {last : Int32} {hi i : Nat} (h : last.toInt + 1 = (hi : Int)) (hi2 : i < 2 ^ 31) : last < nI i ↔ hi ≤ i := by
  rw [Int32.lt_iff_toInt_lt, nI_toInt hi2]
  omega
theorem jmax_0 {a : Nat} (h : a < 2 ^ 31) : jmax (nI a) (nI 0) = nI a := by
  unfold jmax
  rw [if_neg]
  intro q
  exact absurd ((nI_ltI h (by omega)).mp q) (by omega)
def fillS (f : Nat → Int32) (v : Int32) (lo k : Nat) : (Nat → Int32) × Int32 := itr (fun k s => if holdZ s.1 (nI (lo + k)) = v then s else (wrZ s.1 (nI (lo + k)) v, s.2 + 1)) k (f, nI 0)
theorem fillS_s (f : Nat → Int32) (v : Int32) (lo k : Nat) : fillS f v lo (k + 1) = if holdZ (fillS f v lo k).1 (nI (lo + k)) = v then fillS f v lo k else (wrZ (fillS f v lo k).1 (nI (lo + k)) v, (fillS f v lo k).2 + 1) := rfl
def copyZ (f g : Nat → Int32) (n : Nat) : Nat → Int32 := itr (fun i s => wrZ s (nI i) (holdZ g (nI i))) n f
theorem copyZ_s (f g : Nat → Int32) (n : Nat) : copyZ f g (n + 1) = wrZ (copyZ f g n) (nI n) (holdZ g (nI n)) := rfl
def invZ (f : Nat → Int32) (n : Nat) : Nat → Int32 := itr (fun i s => wrZ s (nI i) (if holdZ s (nI i) = 0 then nI 1 else nI 0)) n f
theorem invZ_s (f : Nat → Int32) (n : Nat) : invZ f (n + 1) = wrZ (invZ f n) (nI n) (if holdZ (invZ f n) (nI n) = 0 then nI 1 else nI 0) := rfl
/-- FUNCTIONS, as the class reads and writes them -/
def atV (f : Nat → Int32) (g : Int32) : Int32 := if g < 0 then nI 0 else if nI 201 ≤ g then nI 0 else f g.toNatClampNeg
def wrV (f : Nat → Int32) (g v : Int32) : Nat → Int32 := if g < 0 then f else if nI 201 ≤ g then f else upd f g.toNatClampNeg (jmax (-10000) (jmin (nI 10000) v))
/-- a StepFunction at h, its row at a -/
def SF (D : va_G) (T : Nat → ClassId) (h a : Nat) (f : Nat → Int32) (H : Heap) : Prop := pAt D H h (eO 2 [.ref a]) ∧ pAt D H a (eN (T 1) 201 f) ∧ h ≠ a
def copyV (f g : Nat → Int32) (n : Nat) : Nat → Int32 := itr (fun i s => wrV s (nI i) (atV g (nI i))) n f
theorem copyV_s (f g : Nat → Int32) (n : Nat) : copyV f g (n + 1) = wrV (copyV f g n) (nI n) (atV g (nI n)) := rfl
def stepsV (f : Nat → Int32) (n : Nat) : Int32 := itr (fun i c => if atV f (nI (i + 1)) = atV f (nI (i + 1) - nI 1) then c else c + 1) n (nI 1)
theorem stepsV_s (f : Nat → Int32) (n : Nat) : stepsV f (n + 1) = if atV f (nI (n + 1)) = atV f (nI (n + 1) - nI 1) then stepsV f n else stepsV f n + 1 := rfl
theorem lv_ex {ls : Array Slot} {nL : Nat} {l : List (Nat × Value)} (h : lv_has ls nL l) (k : Nat) {i : Nat} {v v' : Value} (hk : l[k]? = some (i, v)) (e : v = v') : lv_has ls nL (l.set k (i, v')) := by
  refine ⟨h.1, h.2.1, fun q hq => ?_⟩
  rcases List.mem_or_eq_of_mem_set hq with h1 | h1
  · exact h.2.2 q h1
  · subst h1
    subst e
    exact lv_at h k hk
end
section
theorem fb_rng (x : Int32) : -2147483648 ≤ x.toInt ∧ x.toInt < 2147483648 := by
  have h1 := Int32.le_toInt x
  have h2 := Int32.toInt_lt x
  omega
theorem fb_bmod {z : Int} (h1 : -2147483648 ≤ z) (h2 : z < 2147483648) : z.bmod (2 ^ 32) = z := by
  rw [Int.bmod_eq_of_le (by omega) (by omega)]
theorem fb_addI {x y : Int32} (h1 : -2147483648 ≤ x.toInt + y.toInt) (h2 : x.toInt + y.toInt < 2147483648) : (x + y).toInt = x.toInt + y.toInt := by
  rw [Int32.toInt_add, fb_bmod h1 h2]
theorem fb_subI {x y : Int32} (h1 : -2147483648 ≤ x.toInt - y.toInt) (h2 : x.toInt - y.toInt < 2147483648) : (x - y).toInt = x.toInt - y.toInt := by
  rw [Int32.toInt_sub, fb_bmod h1 h2]
theorem fb_mulI {x y : Int32} (h1 : -2147483648 ≤ x.toInt * y.toInt) (h2 : x.toInt * y.toInt < 2147483648) : (x * y).toInt = x.toInt * y.toInt := by
  rw [Int32.toInt_mul, fb_bmod h1 h2]
theorem fb_negI {x : Int32} (h : x.toInt ≠ -2147483648) : (-x).toInt = -x.toInt := by
  have := fb_rng x
  rw [Int32.toInt_neg, fb_bmod (by omega) (by omega)]
theorem fb_ofI {z : Int} (h1 : -2147483648 ≤ z) (h2 : z < 2147483648) : (Int32.ofInt z).toInt = z := by
  rw [Int32.toInt_ofInt, fb_bmod h1 h2]
theorem fb_asI (x : Int32) : Int32.ofInt x.toInt = x := Int32.ofInt_toInt x
theorem fb_rngL (x : Int64) : -9223372036854775808 ≤ x.toInt ∧ x.toInt < 9223372036854775808 := by
  have h1 := Int64.le_toInt x
  have h2 := Int64.toInt_lt x
  omega
theorem fb_bmodL {z : Int} (h1 : -9223372036854775808 ≤ z) (h2 : z < 9223372036854775808) : z.bmod (2 ^ 64) = z := by
  rw [Int.bmod_eq_of_le (by omega) (by omega)]
theorem fb_addL {x y : Int64} (h1 : -9223372036854775808 ≤ x.toInt + y.toInt) (h2 : x.toInt + y.toInt < 9223372036854775808) : (x + y).toInt = x.toInt + y.toInt := by
  rw [Int64.toInt_add, fb_bmodL h1 h2]
theorem fb_subL {x y : Int64} (h1 : -9223372036854775808 ≤ x.toInt - y.toInt) (h2 : x.toInt - y.toInt < 9223372036854775808) : (x - y).toInt = x.toInt - y.toInt := by
  rw [Int64.toInt_sub, fb_bmodL h1 h2]
theorem fb_mulL {x y : Int64} (h1 : -9223372036854775808 ≤ x.toInt * y.toInt) (h2 : x.toInt * y.toInt < 9223372036854775808) : (x * y).toInt = x.toInt * y.toInt := by
  rw [Int64.toInt_mul, fb_bmodL h1 h2]
/-! ===== cuts of what is narrow already ===== -/
end
section
/-! what the class's loops over a row come to, turn by turn -/
def negV (f : Nat → Int32) (n : Nat) : Nat → Int32 := itr (fun i s => wrV s (nI i) (-(atV s (nI i)))) n f
theorem negV_s (f : Nat → Int32) (n : Nat) : negV f (n + 1) = wrV (negV f n) (nI n) (-(atV (negV f n) (nI n))) := rfl
def cliV (f : Nat → Int32) (n : Nat) : Nat → Int32 := itr (fun i s => wrV s (nI (i + 1)) (jmax (atV s (nI (i + 1))) (atV s (nI (i + 1) - nI 1)))) n f
theorem cliV_s (f : Nat → Int32) (n : Nat) : cliV f (n + 1) = wrV (cliV f n) (nI (n + 1)) (jmax (atV (cliV f n) (nI (n + 1))) (atV (cliV f n) (nI (n + 1) - nI 1))) := rfl
def dn (n i : Nat) : Int32 := nI n - nI i
theorem dn_s {n i : Nat} (hn : n < 2 ^ 30) (hi : i + 1 < 2 ^ 30) : dn n i + Int32.ofInt (-1) = dn n (i + 1) := by
  have h1 : (dn n i).toInt = (n : Int) - i := pk_sub_toInt hn (by omega)
  have h2 : (dn n (i + 1)).toInt = (n : Int) - (i + 1 : Nat) := pk_sub_toInt hn hi
  have h3 : (Int32.ofInt (-1)).toInt = -1 := rfl
  refine Int32.toInt_inj.mp ?_
  have h4 : (dn n i + Int32.ofInt (-1)).toInt = (dn n i).toInt + (Int32.ofInt (-1)).toInt := by
    apply fb_addI <;> rw [h1, h3] <;> omega
  rw [h4, h1, h2, h3]
  omega
theorem dn_0 (n : Nat) : nI n = dn n 0 := by
  unfold dn
  rw [show nI 0 = 0 from rfl, Int32.sub_zero]
theorem dn_neg {n i : Nat} (hn : n < 2 ^ 30) (hi : i < 2 ^ 30) : dn n i < 0 ↔ n < i := by
  have h1 := pk_sub_toInt hn hi
  have h0 : (0 : Int32).toInt = 0 := rfl
  rw [Int32.lt_iff_toInt_lt, h0]
  show (nI n - nI i).toInt < 0 ↔ n < i
  rw [h1]
  omega
def criV (f : Nat → Int32) (n : Nat) : Nat → Int32 := itr (fun i s => wrV s (dn 199 i) (jmax (atV s (dn 199 i)) (atV s (dn 199 i + nI 1)))) n f
theorem criV_s (f : Nat → Int32) (n : Nat) : criV f (n + 1) = wrV (criV f n) (dn 199 n) (jmax (atV (criV f n) (dn 199 n)) (atV (criV f n) (dn 199 n + nI 1))) := rfl
def ptZ (g : Int32) : Int32 := if ¬ g &&& nI 1 = 0 then nI 0 else nI 1
def addV (f : Nat → Int32) (n : Nat) : (Nat → Int32) × Int32 := itr (fun i s => (wrV s.1 (nI i) (if ptZ (nI i) = 0 then s.2 + atV s.1 (nI i) else s.2), if ptZ (nI i) = 0 then s.2 + atV s.1 (nI i) else s.2)) n (f, nI 0)
theorem addV_s (f : Nat → Int32) (n : Nat) : addV f (n + 1) = (wrV (addV f n).1 (nI n) (if ptZ (nI n) = 0 then (addV f n).2 + atV (addV f n).1 (nI n) else (addV f n).2), if ptZ (nI n) = 0 then (addV f n).2 + atV (addV f n).1 (nI n) else (addV f n).2) := rfl
def mirV (f g : Nat → Int32) (n : Nat) : Nat → Int32 := itr (fun i s => wrV s (nI i) (atV g (nI 200 - nI i))) n f
theorem mirV_s (f g : Nat → Int32) (n : Nat) : mirV f g (n + 1) = wrV (mirV f g n) (nI n) (atV g (nI 200 - nI n)) := rfl
def grtV (f : Nat → Int32) (lo k : Nat) : Int32 := itr (fun k m => jmax m (atV f (nI (lo + k)))) k (-10000)
theorem grtV_s (f : Nat → Int32) (lo k : Nat) : grtV f lo (k + 1) = jmax (grtV f lo k) (atV f (nI (lo + k))) := rfl
def lstV (f : Nat → Int32) (lo k : Nat) : Int32 := itr (fun k m => jmin m (atV f (nI (lo + k)))) k (nI 10000)
theorem lstV_s (f : Nat → Int32) (lo k : Nat) : lstV f lo (k + 1) = jmin (lstV f lo k) (atV f (nI (lo + k))) := rfl
def fgrV (f : Nat → Int32) (n : Nat) : Int32 := itr (fun i m => if atV f (nI (i + 1)) ≤ atV f m then m else nI (i + 1)) n (nI 0)
theorem fgrV_s (f : Nat → Int32) (n : Nat) : fgrV f (n + 1) = if atV f (nI (n + 1)) ≤ atV f (fgrV f n) then fgrV f n else nI (n + 1) := rfl
def grnV (f g : Nat → Int32) (r n : Nat) : Nat → Int32 := itr (fun i s => wrV s (nI i) (grtV g (i - r) (min (i + r + 1) 201 - (i - r)))) n f
theorem grnV_s (f g : Nat → Int32) (r n : Nat) : grnV f g r (n + 1) = wrV (grnV f g r n) (nI n) (grtV g (n - r) (min (n + r + 1) 201 - (n - r))) := rfl
def lenV (f g : Nat → Int32) (r n : Nat) : Nat → Int32 := itr (fun i s => wrV s (nI i) (lstV g (i - r) (min (i + r + 1) 201 - (i - r)))) n f
theorem lenV_s (f g : Nat → Int32) (r n : Nat) : lenV f g r (n + 1) = wrV (lenV f g r n) (nI n) (lstV g (n - r) (min (n + r + 1) 201 - (n - r))) := rfl
theorem jmax_sub {i r : Nat} (hi : i < 2 ^ 30) (hr : r < 2 ^ 30) : jmax (nI i - nI r) (nI 0) = nI (i - r) := by
  unfold jmax
  rcases Nat.lt_or_ge i r with h | h
  · rw [if_pos (show nI i - nI r < nI 0 from pk_sneg hr h), show i - r = 0 by omega]
  · rw [pk_sub h, if_neg]
    intro q
    exact absurd ((nI_ltI (by omega) (by omega)).mp q) (by omega)
theorem add_hi {i r : Nat} (hi : i < 2 ^ 30) (hr : r < 2 ^ 30) : (nI (i + r)).toInt + 1 = ((i + r + 1 : Nat) : Int) := by
  rw [nI_toInt (by omega)]
  omega
def dropZ (f : Nat → Int32) (n : Nat) : Nat → Int32 := itr (fun i s => if (2 * i = 0 ∨ ¬ holdZ s (nI (2 * i) - nI 1) = 0) ∧ (2 * i = 200 ∨ ¬ holdZ s (nI (2 * i + 1)) = 0) then s else wrZ s (nI (2 * i)) (nI 0)) n f
theorem dropZ_s (f : Nat → Int32) (n : Nat) : dropZ f (n + 1) = if (2 * n = 0 ∨ ¬ holdZ (dropZ f n) (nI (2 * n) - nI 1) = 0) ∧ (2 * n = 200 ∨ ¬ holdZ (dropZ f n) (nI (2 * n + 1)) = 0) then dropZ f n else wrZ (dropZ f n) (nI (2 * n)) (nI 0) := rfl
def edgZ (v : Int32) (f : Nat → Int32) (n : Nat) : Nat → Int32 := itr (fun i s => if holdZ s (nI (2 * i) - nI 1) = 0 ∧ holdZ s (nI (2 * i + 1)) = 0 then s else wrZ s (nI (2 * i)) v) n f
theorem edgZ_s (v : Int32) (f : Nat → Int32) (n : Nat) : edgZ v f (n + 1) = if holdZ (edgZ v f n) (nI (2 * n) - nI 1) = 0 ∧ holdZ (edgZ v f n) (nI (2 * n + 1)) = 0 then edgZ v f n else wrZ (edgZ v f n) (nI (2 * n)) v := rfl
def oddZ (f : Nat → Int32) (n : Nat) : Nat → Int32 := itr (fun i s => wrZ s (nI (2 * i + 1)) (nI 0)) n f
theorem oddZ_0 (f : Nat → Int32) : oddZ f 0 = f := rfl
theorem oddZ_s (f : Nat → Int32) (n : Nat) : oddZ f (n + 1) = wrZ (oddZ f n) (nI (2 * n + 1)) (nI 0) := rfl
def mirZ (f : Nat → Int32) (n : Nat) : Nat → Int32 := itr (fun i s => wrZ (wrZ s (nI i) (holdZ s (nI 200 - nI i))) (nI 200 - nI i) (holdZ s (nI i))) n f
theorem mirZ_s (f : Nat → Int32) (n : Nat) : mirZ f (n + 1) = wrZ (wrZ (mirZ f n) (nI n) (holdZ (mirZ f n) (nI 200 - nI n))) (nI 200 - nI n) (holdZ (mirZ f n) (nI n)) := rfl
theorem itr_inv {α : Type} {F : Nat → α → α} {P : α → Prop} {n : Nat} {a : α} (h0 : P a) (hs : ∀ i b, i < n → P b → P (F i b)) : P (itr F n a) := by
  induction n with
  | zero => exact h0
  | succ n ih => exact hs n _ (Nat.lt_succ_self n) (ih (fun i b hi hb => hs i b (Nat.lt_succ_of_lt hi) hb))
end
section
set_option maxHeartbeats 4000000 in
set_option maxRecDepth 100000 in
theorem conX0_holds (l : Launch) (D : va_G) (T : Nat → ClassId) (h a : Nat) (f : Nat → Int32) (g : Int32) : Met l yX0_holds wsX0_holds ({ frames := 0, cells := 0, slots := 0, locals := 0 }) (cP D T [.ref h, .int g] (fun H => GS D T h a f H)) (vp_Si (fun r => r = holdZ f g)) 0 0 (fun _ => False) := by
  refine Met.ofW (cc := cX0_holds) (maxL := 2) (ret := (some .boolean)) (by decide) rfl ?_
  intro p e s m args below meth c s₁ B hml hv9
  obtain ⟨rfl, hK, hh, ha, hne⟩ := hv9
  have hx := B.exec
  have hb := B.bytes
  have hr := B.returns
  have hts := atoms_spec (ws := wsX0_holds) B.pre
  have hown : s.vm.findClass RX0 = some m.cls := findClass_of_methodNamed B.named
  have hlocks := B.notSynchronized
  have hin0 : ∀ w ∈ wsX00, w ∈ wsX0_holds := by decide +kernel
  have hl := lv_entry ([.ref h, .int g]) (n := 2) (Nat.le_of_ble_eq_true rfl)
  rw [lg_entry_eq]
  generalize (lg_sl ([.ref h, .int g]) ++ List.replicate (2 - (lg_sl ([.ref h, .int g])).length) Slot.unset).toArray = ls at hl ⊢
  have hl : lv_has ls 2 [(0, .ref h), (1, .int g)] := hl
  refine lv_iload_n hx hb dX0_holds_0 rfl (lv_at hl 1 rfl) ?_
  refine lv_if_lt (tgt := 26) hx hb dX0_holds_1 (by decide) (fun c1 => ?_) (fun c1 => ?_)
  · skip
    refine lv_iconst (v := nI 0) hx hb dX0_holds_26 (by decide) ?_
    exact W.zret (v := nI 0) hx hb hr (rfl) (fun t ht _ => ⟨nI 0, rfl, by simp [holdZ, c1], ht⟩) (fun q hq => absurd hq List.not_mem_nil) dX0_holds_27
  · skip
    refine lv_iload_n hx hb dX0_holds_4 rfl (lv_at hl 1 rfl) ?_
    refine lv_aload_n hx hb dX0_holds_5 rfl (lv_at hl 0 rfl) ?_
    refine q_get (v := .ref a) hx hb hts hin0 hown hK hh rfl 0 (by decide) (hts (.fieldLink RX0 9 "PuddingstoneLine$GrainSet" "grains" "[Z") (by decide +kernel)) (fun _ h9 => h9) rfl dX0_holds_6 ?_
    refine q_len hx hb hK 0 rfl ha dX0_holds_9 ?_
    refine lv_icmp_ge (tgt := 26) hx hb dX0_holds_10 (by decide) (fun c10 => ?_) (fun c10 => ?_)
    · skip
      refine lv_iconst (v := nI 0) hx hb dX0_holds_26 (by decide) ?_
      exact W.zret (v := nI 0) hx hb hr (rfl) (fun t ht _ => ⟨nI 0, rfl, by simp [holdZ, c1, c10], ht⟩) (fun q hq => absurd hq List.not_mem_nil) dX0_holds_27
    · skip
      refine lv_aload_n hx hb dX0_holds_13 rfl (lv_at hl 0 rfl) ?_
      refine q_get (v := .ref a) hx hb hts hin0 hown hK hh rfl 0 (by decide) (hts (.fieldLink RX0 9 "PuddingstoneLine$GrainSet" "grains" "[Z") (by decide +kernel)) (fun _ h9 => h9) rfl dX0_holds_14 ?_
      refine lv_iload_n hx hb dX0_holds_17 rfl (lv_at hl 1 rfl) ?_
      refine q_zald hx hb hK ha g.toNatClampNeg (in_eq c1) (in_lt c1 c10) (by decide) dX0_holds_18 ?_
      refine lv_if_eq (tgt := 26) hx hb dX0_holds_19 (by decide) (fun c19 => ?_) (fun c19 => ?_)
      · skip
        refine lv_iconst (v := nI 0) hx hb dX0_holds_26 (by decide) ?_
        exact W.zret (v := nI 0) hx hb hr (rfl) (fun t ht _ => ⟨nI 0, rfl, by simp [holdZ, c1, c10, c19], ht⟩) (fun q hq => absurd hq List.not_mem_nil) dX0_holds_27
      · skip
        refine lv_iconst (v := nI 1) hx hb dX0_holds_22 (by decide) ?_
        refine lv_goto (tgt := 27) hx hb dX0_holds_23 (by decide) ?_
        exact W.zret (v := nI 1) hx hb hr (rfl) (fun t ht _ => ⟨nI 1, rfl, by simp [holdZ, c1, c10, c19], ht⟩) (fun q hq => absurd hq List.not_mem_nil) dX0_holds_27

set_option maxHeartbeats 4000000 in
set_option maxRecDepth 100000 in
theorem conX0_write (l : Launch) (D : va_G) (T : Nat → ClassId) (h a : Nat) (f : Nat → Int32) (g v : Int32) (hv : vp_nar .boolean v = v) : Met l yX0_write wsX0_write ({ frames := 0, cells := 0, slots := 0, locals := 0 }) (cP D T [.ref h, .int g, .int v] (fun H => GS D T h a f H)) (va_Qv (fun (_ : Unit) => True) (fun _ t => pAt D t.heap a (eN (T 0) 201 (wrZ f g v))) (fun q : Nat => q = a)) 0 0 (fun q : Nat => q = a) := by
  refine Met.ofW (cc := cX0_write) (maxL := 3) (ret := none) (by decide) rfl ?_
  intro p e s m args below meth c s₁ B hml hv9
  obtain ⟨rfl, hK, hh, ha, hne⟩ := hv9
  have hx := B.exec
  have hb := B.bytes
  have hr := B.returns
  have hts := atoms_spec (ws := wsX0_write) B.pre
  have hown : s.vm.findClass RX0 = some m.cls := findClass_of_methodNamed B.named
  have hlocks := B.notSynchronized
  have hin0 : ∀ w ∈ wsX00, w ∈ wsX0_write := by decide +kernel
  generalize hAe : (fun q : Nat => q = a) = A
  have hA_a : A a := by subst hAe; first | rfl | exact Or.inl rfl | exact Or.inr rfl | (simp; done)
  have hS : va_S A s.heap s.heap [] := va_S.rf
  have hl := lv_entry ([.ref h, .int g, .int v]) (n := 3) (Nat.le_of_ble_eq_true rfl)
  rw [lg_entry_eq]
  generalize (lg_sl ([.ref h, .int g, .int v]) ++ List.replicate (3 - (lg_sl ([.ref h, .int g, .int v])).length) Slot.unset).toArray = ls at hl ⊢
  have hl : lv_has ls 3 [(0, .ref h), (1, .int g), (2, .int v)] := hl
  refine lv_iload_n hx hb dX0_write_0 rfl (lv_at hl 1 rfl) ?_
  refine lv_if_lt (tgt := 20) hx hb dX0_write_1 (by decide) (fun c1 => ?_) (fun c1 => ?_)
  · skip
    exact W.vret hx hb hr (fun t ht _ => ⟨⟨(), rfl, trivial, by dsimp only; rw [ht]; exact (by simp only [wrZ, c1, if_true, if_false]; exact ha)⟩, hS.F ht⟩) hS.2.2 dX0_write_20
  · skip
    refine lv_iload_n hx hb dX0_write_4 rfl (lv_at hl 1 rfl) ?_
    refine lv_aload_n hx hb dX0_write_5 rfl (lv_at hl 0 rfl) ?_
    refine q_get (v := .ref a) hx hb hts hin0 hown hK hh rfl 0 (by decide) (hts (.fieldLink RX0 9 "PuddingstoneLine$GrainSet" "grains" "[Z") (by decide +kernel)) (fun _ h9 => h9) rfl dX0_write_6 ?_
    refine q_len hx hb hK 0 rfl ha dX0_write_9 ?_
    refine lv_icmp_ge (tgt := 20) hx hb dX0_write_10 (by decide) (fun c10 => ?_) (fun c10 => ?_)
    · skip
      exact W.vret hx hb hr (fun t ht _ => ⟨⟨(), rfl, trivial, by dsimp only; rw [ht]; exact (by simp only [wrZ, c1, c10, if_true, if_false]; exact ha)⟩, hS.F ht⟩) hS.2.2 dX0_write_20
    · skip
      refine lv_aload_n hx hb dX0_write_13 rfl (lv_at hl 0 rfl) ?_
      refine q_get (v := .ref a) hx hb hts hin0 hown hK hh rfl 0 (by decide) (hts (.fieldLink RX0 9 "PuddingstoneLine$GrainSet" "grains" "[Z") (by decide +kernel)) (fun _ h9 => h9) rfl dX0_write_14 ?_
      refine lv_iload_n hx hb dX0_write_17 rfl (lv_at hl 1 rfl) ?_
      refine lv_iload_n hx hb dX0_write_18 rfl (lv_at hl 2 rfl) ?_
      refine q_zast hx hb hK ha g.toNatClampNeg (in_eq c1) (in_lt c1 c10) (by decide) (hv) hS (hA_a) dX0_write_19 (fun H1 locs1 hw hz oq hS => ?_)
      replace hh := hh.ne oq (hne)
      have ha := hw
      exact W.vret hx hb hr (fun t ht _ => ⟨⟨(), rfl, trivial, by dsimp only; rw [ht]; exact (by simp only [wrZ, c1, c10, if_true, if_false]; exact ha)⟩, hS.F ht⟩) hS.2.2 dX0_write_20

set_option maxHeartbeats 4000000 in
set_option maxRecDepth 100000 in
theorem conX0_count (l : Launch) (D : va_G) (T : Nat → ClassId) (h a : Nat) (f : Nat → Int32) : Met l yX0_count wsX0_count ({ frames := 1, cells := 0, slots := 0, locals := 21 }) (cP D T [.ref h] (fun H => GS D T h a f H)) (vp_Si (fun r => r = cntZ f 201)) 0 0 (fun _ => False) := by
  refine Met.ofW (cc := cX0_count) (maxL := 3) (ret := (some .int)) (by decide) rfl ?_
  intro p e s m args below meth c s₁ B hml hv9
  obtain ⟨rfl, hK, hh, ha, hne⟩ := hv9
  have hx := B.exec
  have hb := B.bytes
  have hr := B.returns
  have hts := atoms_spec (ws := wsX0_count) B.pre
  have hown : s.vm.findClass RX0 = some m.cls := findClass_of_methodNamed B.named
  have hlocks := B.notSynchronized
  have hl := lv_entry ([.ref h]) (n := 3) (Nat.le_of_ble_eq_true rfl)
  rw [lg_entry_eq]
  generalize (lg_sl ([.ref h]) ++ List.replicate (3 - (lg_sl ([.ref h])).length) Slot.unset).toArray = ls at hl ⊢
  have hl : lv_has ls 3 [(0, .ref h)] := hl
  refine lv_iconst (v := nI 0) hx hb dX0_count_0 (by decide) ?_
  refine lv_istore_n (lv' := [(1, .int (nI 0)), (0, .ref h)]) hx hb dX0_count_1 rfl hl (by decide) rfl (fun ls hl => ?_)
  refine lv_iconst (v := nI 0) hx hb dX0_count_2 (by decide) ?_
  refine lv_istore_n (lv' := [(2, .int (nI 0)), (1, .int (nI 0)), (0, .ref h)]) hx hb dX0_count_3 rfl hl (by decide) rfl (fun ls hl => ?_)
  refine q_for (fun (i : Nat) (H : Heap) (locs : List Loc) (ls : Array Slot) => H = s.heap ∧ locs = [] ∧ lv_has ls 3 [(2, .int (nI i)), (1, .int (cntZ f i)), (0, .ref h)]) (N := 201) 0 (by omega) ?_ ?_ ?_
  · skip
    have e1 : nI 0 = cntZ f 0 := by first | rfl | simp [cntZ_s, ]
    exact ⟨rfl, rfl, lv_sub (lv_ex hl 1 rfl (congrArg Value.int e1)) [0, 1, 2] rfl⟩
  · skip
    intro i H locs ls hi9 hin9 hnext
    obtain ⟨rfl, rfl, hl⟩ := hin9
    refine lv_iload_n hx hb dX0_count_4 rfl (lv_at hl 0 rfl) ?_
    refine lv_sipush (v := nI 201) hx hb dX0_count_5 (by decide) ?_
    refine lv_icmp_ge (tgt := 28) hx hb dX0_count_8 (by decide) (fun c8 => ?_) (fun c8 => ?_)
    · skip
      have c8 : 201 ≤ i := (nc_le (a := 201) (b := i) (by omega) (by omega)).mp c8
      omega
    · skip
      have c8 : ¬ (201 ≤ i) := fun q9 => c8 ((nc_le (a := 201) (b := i) (by omega) (by omega)).mpr q9)
      refine lv_aload_n hx hb dX0_count_11 rfl (lv_at hl 2 rfl) ?_
      refine lv_iload_n hx hb dX0_count_12 rfl (lv_at hl 0 rfl) ?_
      refine vp_callSi (va_runV (As := [.int (nI i)]) (rest := []) ⟨hx, hb, hml, hown, hts⟩ (conX0_holds l D T h a f (nI i)) (cwV 1 hts gX0_count_X0_holds rfl rfl rfl (by decide +kernel) ⟨Nat.le_of_ble_eq_true rfl, Nat.le_of_ble_eq_true rfl⟩) (preV hK hh rfl ⟨hh, ha, hne⟩) rfl rfl hl.1 rfl (lv_room (Nat.le_of_ble_eq_true rfl)) dX0_count_13 ⟨Nat.le_of_ble_eq_true rfl, Nat.le_of_ble_eq_true rfl⟩).run (fun r2 hr2 => ?_)
      subst hr2
      refine lv_if_eq (tgt := 22) hx hb dX0_count_16 (by decide) (fun c16 => ?_) (fun c16 => ?_)
      · skip
        refine lv_iinc (v := nI (i + 1)) (lv' := [(2, .int (nI (i + 1))), (1, .int (cntZ f i)), (0, .ref h)]) hx hb dX0_count_22 hl (k := 0) rfl (inc_1 _) (by decide) rfl (fun ls hl => ?_)
        refine lv_goto (tgt := 4) hx hb dX0_count_25 (by decide) ?_
        have e3 : cntZ f i = cntZ f (i + 1) := by first | rfl | simp [cntZ_s, c8, c16]
        exact hnext _ _ _ ⟨rfl, rfl, lv_sub (lv_ex hl 1 rfl (congrArg Value.int e3)) [0, 1, 2] rfl⟩
      · skip
        refine lv_iinc (v := (cntZ f i) + 1) (lv' := [(1, .int ((cntZ f i) + 1)), (2, .int (nI i)), (0, .ref h)]) hx hb dX0_count_19 hl (k := 1) rfl (rfl) (by decide) rfl (fun ls hl => ?_)
        refine lv_iinc (v := nI (i + 1)) (lv' := [(2, .int (nI (i + 1))), (1, .int ((cntZ f i) + 1)), (0, .ref h)]) hx hb dX0_count_22 hl (k := 1) rfl (inc_1 _) (by decide) rfl (fun ls hl => ?_)
        refine lv_goto (tgt := 4) hx hb dX0_count_25 (by decide) ?_
        have e4 : (cntZ f i) + 1 = cntZ f (i + 1) := by first | rfl | simp [cntZ_s, c8, c16]
        exact hnext _ _ _ ⟨rfl, rfl, lv_sub (lv_ex hl 1 rfl (congrArg Value.int e4)) [0, 1, 2] rfl⟩
  · skip
    intro H locs ls hin9
    obtain ⟨rfl, rfl, hl⟩ := hin9
    refine lv_iload_n hx hb dX0_count_4 rfl (lv_at hl 0 rfl) ?_
    refine lv_sipush (v := nI 201) hx hb dX0_count_5 (by decide) ?_
    refine lv_icmp_ge (tgt := 28) hx hb dX0_count_8 (by decide) (fun c8 => ?_) (fun c8 => ?_)
    · skip
      have c8 : 201 ≤ 201 := (nc_le (a := 201) (b := 201) (by omega) (by omega)).mp c8
      refine lv_iload_n hx hb dX0_count_28 rfl (lv_at hl 1 rfl) ?_
      exact W.iret (v := cntZ f 201) hx hb hr (fun t ht _ => ⟨cntZ f 201, rfl, by rfl, ht⟩) (fun q hq => absurd hq List.not_mem_nil) dX0_count_29
    · skip
      have c8 : ¬ (201 ≤ 201) := fun q9 => c8 ((nc_le (a := 201) (b := 201) (by omega) (by omega)).mpr q9)
      omega

set_option maxHeartbeats 4000000 in
set_option maxRecDepth 100000 in
theorem conX0_length (l : Launch) (D : va_G) (T : Nat → ClassId) (h a : Nat) (f : Nat → Int32) : Met l yX0_length wsX0_length ({ frames := 1, cells := 0, slots := 0, locals := 21 }) (cP D T [.ref h] (fun H => GS D T h a f H)) (vp_Si (fun r => r = lenZ f 100)) 0 0 (fun _ => False) := by
  refine Met.ofW (cc := cX0_length) (maxL := 3) (ret := (some .int)) (by decide) rfl ?_
  intro p e s m args below meth c s₁ B hml hv9
  obtain ⟨rfl, hK, hh, ha, hne⟩ := hv9
  have hx := B.exec
  have hb := B.bytes
  have hr := B.returns
  have hts := atoms_spec (ws := wsX0_length) B.pre
  have hown : s.vm.findClass RX0 = some m.cls := findClass_of_methodNamed B.named
  have hlocks := B.notSynchronized
  have hl := lv_entry ([.ref h]) (n := 3) (Nat.le_of_ble_eq_true rfl)
  rw [lg_entry_eq]
  generalize (lg_sl ([.ref h]) ++ List.replicate (3 - (lg_sl ([.ref h])).length) Slot.unset).toArray = ls at hl ⊢
  have hl : lv_has ls 3 [(0, .ref h)] := hl
  refine lv_iconst (v := nI 0) hx hb dX0_length_0 (by decide) ?_
  refine lv_istore_n (lv' := [(1, .int (nI 0)), (0, .ref h)]) hx hb dX0_length_1 rfl hl (by decide) rfl (fun ls hl => ?_)
  refine lv_iconst (v := nI 1) hx hb dX0_length_2 (by decide) ?_
  refine lv_istore_n (lv' := [(2, .int (nI 1)), (1, .int (nI 0)), (0, .ref h)]) hx hb dX0_length_3 rfl hl (by decide) rfl (fun ls hl => ?_)
  refine q_for (fun (i : Nat) (H : Heap) (locs : List Loc) (ls : Array Slot) => H = s.heap ∧ locs = [] ∧ lv_has ls 3 [(2, .int (nI (2 * i + 1))), (1, .int (lenZ f i)), (0, .ref h)]) (N := 100) 0 (by omega) ?_ ?_ ?_
  · skip
    have e1 : nI 0 = lenZ f 0 := by first | rfl | simp [lenZ_s, ]
    exact ⟨rfl, rfl, lv_sub (lv_ex hl 1 rfl (congrArg Value.int e1)) [0, 1, 2] rfl⟩
  · skip
    intro i H locs ls hi9 hin9 hnext
    obtain ⟨rfl, rfl, hl⟩ := hin9
    refine lv_iload_n hx hb dX0_length_4 rfl (lv_at hl 0 rfl) ?_
    refine lv_sipush (v := nI 201) hx hb dX0_length_5 (by decide) ?_
    refine lv_icmp_ge (tgt := 28) hx hb dX0_length_8 (by decide) (fun c8 => ?_) (fun c8 => ?_)
    · skip
      have c8 : 201 ≤ 2 * i + 1 := (nc_le (a := 201) (b := 2 * i + 1) (by omega) (by omega)).mp c8
      omega
    · skip
      have c8 : ¬ (201 ≤ 2 * i + 1) := fun q9 => c8 ((nc_le (a := 201) (b := 2 * i + 1) (by omega) (by omega)).mpr q9)
      refine lv_aload_n hx hb dX0_length_11 rfl (lv_at hl 2 rfl) ?_
      refine lv_iload_n hx hb dX0_length_12 rfl (lv_at hl 0 rfl) ?_
      refine vp_callSi (va_runV (As := [.int (nI (2 * i + 1))]) (rest := []) ⟨hx, hb, hml, hown, hts⟩ (conX0_holds l D T h a f (nI (2 * i + 1))) (cwV 1 hts gX0_length_X0_holds rfl rfl rfl (by decide +kernel) ⟨Nat.le_of_ble_eq_true rfl, Nat.le_of_ble_eq_true rfl⟩) (preV hK hh rfl ⟨hh, ha, hne⟩) rfl rfl hl.1 rfl (lv_room (Nat.le_of_ble_eq_true rfl)) dX0_length_13 ⟨Nat.le_of_ble_eq_true rfl, Nat.le_of_ble_eq_true rfl⟩).run (fun r2 hr2 => ?_)
      subst hr2
      refine lv_if_eq (tgt := 22) hx hb dX0_length_16 (by decide) (fun c16 => ?_) (fun c16 => ?_)
      · skip
        refine lv_iinc (v := nI ((2 * i + 1) + 2)) (lv' := [(2, .int (nI ((2 * i + 1) + 2))), (1, .int (lenZ f i)), (0, .ref h)]) hx hb dX0_length_22 hl (k := 0) rfl (inc_2 _) (by decide) rfl (fun ls hl => ?_)
        refine lv_goto (tgt := 4) hx hb dX0_length_25 (by decide) ?_
        have e3 : nI ((2 * i + 1) + 2) = nI (2 * (i + 1) + 1) := by first | rfl | (congr 1; omega)
        have e4 : lenZ f i = lenZ f (i + 1) := by first | rfl | simp [lenZ_s, c8, c16]
        exact hnext _ _ _ ⟨rfl, rfl, lv_sub (lv_ex (lv_ex hl 0 rfl (congrArg Value.int e3)) 1 rfl (congrArg Value.int e4)) [0, 1, 2] rfl⟩
      · skip
        refine lv_iinc (v := (lenZ f i) + 1) (lv' := [(1, .int ((lenZ f i) + 1)), (2, .int (nI (2 * i + 1))), (0, .ref h)]) hx hb dX0_length_19 hl (k := 1) rfl (rfl) (by decide) rfl (fun ls hl => ?_)
        refine lv_iinc (v := nI ((2 * i + 1) + 2)) (lv' := [(2, .int (nI ((2 * i + 1) + 2))), (1, .int ((lenZ f i) + 1)), (0, .ref h)]) hx hb dX0_length_22 hl (k := 1) rfl (inc_2 _) (by decide) rfl (fun ls hl => ?_)
        refine lv_goto (tgt := 4) hx hb dX0_length_25 (by decide) ?_
        have e5 : nI ((2 * i + 1) + 2) = nI (2 * (i + 1) + 1) := by first | rfl | (congr 1; omega)
        have e6 : (lenZ f i) + 1 = lenZ f (i + 1) := by first | rfl | simp [lenZ_s, c8, c16]
        exact hnext _ _ _ ⟨rfl, rfl, lv_sub (lv_ex (lv_ex hl 0 rfl (congrArg Value.int e5)) 1 rfl (congrArg Value.int e6)) [0, 1, 2] rfl⟩
  · skip
    intro H locs ls hin9
    obtain ⟨rfl, rfl, hl⟩ := hin9
    refine lv_iload_n hx hb dX0_length_4 rfl (lv_at hl 0 rfl) ?_
    refine lv_sipush (v := nI 201) hx hb dX0_length_5 (by decide) ?_
    refine lv_icmp_ge (tgt := 28) hx hb dX0_length_8 (by decide) (fun c8 => ?_) (fun c8 => ?_)
    · skip
      have c8 : 201 ≤ 201 := (nc_le (a := 201) (b := 201) (by omega) (by omega)).mp c8
      refine lv_iload_n hx hb dX0_length_28 rfl (lv_at hl 1 rfl) ?_
      exact W.iret (v := lenZ f 100) hx hb hr (fun t ht _ => ⟨lenZ f 100, rfl, by rfl, ht⟩) (fun q hq => absurd hq List.not_mem_nil) dX0_length_29
    · skip
      have c8 : ¬ (201 ≤ 201) := fun q9 => c8 ((nc_le (a := 201) (b := 201) (by omega) (by omega)).mpr q9)
      omega

set_option maxHeartbeats 4000000 in
set_option maxRecDepth 100000 in
theorem conX0_fill (l : Launch) (D : va_G) (T : Nat → ClassId) (h a : Nat) (f : Nat → Int32) (lo hi : Nat) (last v : Int32) (hlo : lo < 2 ^ 30) (hhi : hi < 2 ^ 30) (hla : last.toInt + 1 = (hi : Int)) (hv : vp_nar .boolean v = v) : Met l yX0_fill wsX0_fill ({ frames := 1, cells := 0, slots := 0, locals := 22 }) (cP D T [.ref h, .int (nI lo), .int last, .int v] (fun H => GS D T h a f H)) (va_Qi (fun (r : Int32) (_ : Unit) => r = (fillS f v lo (min hi 201 - lo)).2) (fun _ t => pAt D t.heap a (eN (T 0) 201 (fillS f v lo (min hi 201 - lo)).1)) (fun q : Nat => q = a)) 0 0 (fun q : Nat => q = a) := by
  refine Met.ofW (cc := cX0_fill) (maxL := 6) (ret := (some .int)) (by decide) rfl ?_
  intro p e s m args below meth c s₁ B hml hv9
  obtain ⟨rfl, hK, hh, ha, hne⟩ := hv9
  have hx := B.exec
  have hb := B.bytes
  have hr := B.returns
  have hts := atoms_spec (ws := wsX0_fill) B.pre
  have hown : s.vm.findClass RX0 = some m.cls := findClass_of_methodNamed B.named
  have hlocks := B.notSynchronized
  generalize hAe : (fun q : Nat => q = a) = A
  have hA_a : A a := by subst hAe; first | rfl | exact Or.inl rfl | exact Or.inr rfl | (simp; done)
  have hS : va_S A s.heap s.heap [] := va_S.rf
  have hl := lv_entry ([.ref h, .int (nI lo), .int last, .int v]) (n := 6) (Nat.le_of_ble_eq_true rfl)
  rw [lg_entry_eq]
  generalize (lg_sl ([.ref h, .int (nI lo), .int last, .int v]) ++ List.replicate (6 - (lg_sl ([.ref h, .int (nI lo), .int last, .int v])).length) Slot.unset).toArray = ls at hl ⊢
  have hl : lv_has ls 6 [(0, .ref h), (1, .int (nI lo)), (2, .int last), (3, .int v)] := hl
  refine lv_iconst (v := nI 0) hx hb dX0_fill_0 (by decide) ?_
  refine lv_istore (lv' := [(4, .int (nI 0)), (0, .ref h), (1, .int (nI lo)), (2, .int last), (3, .int v)]) hx hb dX0_fill_1 hl (by decide) rfl (fun ls hl => ?_)
  refine lv_iload_n hx hb dX0_fill_3 rfl (lv_at hl 2 rfl) ?_
  refine lv_iconst (v := nI 0) hx hb dX0_fill_4 (by decide) ?_
  refine va_mmax hx hb (hml.trans hl.1.symm) hown (hts (.methodLink RX0 15 Lib.Math.max.name) (by decide +kernel)) (hts (.static Lib.Math.max.name) (by decide +kernel)) (hts (.initialized "java/lang/Math") (by decide +kernel)) (hts (.code Lib.Math.max.name Lib.Math.max.code 2 (some .int)) (by decide +kernel)) (Nat.le_of_ble_eq_true rfl) (Nat.le_of_ble_eq_true rfl) (Nat.le_of_ble_eq_true rfl) (Nat.le_of_ble_eq_true rfl) dX0_fill_5 ?_
  refine lv_istore (lv' := [(5, .int (jmax (nI lo) (nI 0))), (4, .int (nI 0)), (0, .ref h), (1, .int (nI lo)), (2, .int last), (3, .int v)]) hx hb dX0_fill_8 hl (by decide) rfl (fun ls hl => ?_)
  refine q_for (fun (i : Nat) (H : Heap) (locs : List Loc) (ls : Array Slot) => va_S A s.heap H locs ∧ lv_has ls 6 [(5, .int (nI (lo + i))), (4, .int ((fillS f v lo i).2)), (0, .ref h), (1, .int (nI lo)), (2, .int last), (3, .int v)] ∧ pAt D H h (eO 0 [.ref a]) ∧ pAt D H a (eN (T 0) 201 ((fillS f v lo i).1))) (N := (min hi 201 - lo)) 0 (by omega) ?_ ?_ ?_
  · skip
    have e1 : jmax (nI lo) (nI 0) = nI (lo + 0) := by first | rfl | exact jmax_0 (by omega)
    have e2 : nI 0 = (fillS f v lo 0).2 := by first | rfl | (rw [fillS_s, if_pos c31]; done) | (rw [fillS_s, if_neg c31]; done)
    have e3 : (eN (T 0) 201 f) = (eN (T 0) 201 ((fillS f v lo 0).1)) := by first | rfl | (rw [fillS_s, if_pos c31]; done) | (rw [fillS_s, if_neg c31]; done)
    exact ⟨hS, lv_sub (lv_ex (lv_ex hl 0 rfl (congrArg Value.int e1)) 1 rfl (congrArg Value.int e2)) [0, 1, 2, 3, 4, 5] rfl, hh, (by rw [← e3]; exact ha)⟩
  · skip
    intro i H locs ls hi9 hin9 hnext
    obtain ⟨hS, hl, hh, ha⟩ := hin9
    refine lv_iload hx hb dX0_fill_10 (lv_at hl 0 rfl) ?_
    refine lv_iload_n hx hb dX0_fill_12 rfl (lv_at hl 4 rfl) ?_
    refine lv_icmp_gt (tgt := 50) hx hb dX0_fill_13 (by decide) (fun c13 => ?_) (fun c13 => ?_)
    · skip
      have c13 : hi ≤ lo + i := (lt_pred hla (by omega)).mp c13
      omega
    · skip
      have c13 : ¬ (hi ≤ lo + i) := fun q9 => c13 ((lt_pred hla (by omega)).mpr q9)
      refine lv_iload hx hb dX0_fill_16 (lv_at hl 0 rfl) ?_
      refine lv_sipush (v := nI 201) hx hb dX0_fill_18 (by decide) ?_
      refine lv_icmp_ge (tgt := 50) hx hb dX0_fill_21 (by decide) (fun c21 => ?_) (fun c21 => ?_)
      · skip
        have c21 : 201 ≤ lo + i := (nc_le (a := 201) (b := lo + i) (by omega) (by omega)).mp c21
        omega
      · skip
        have c21 : ¬ (201 ≤ lo + i) := fun q9 => c21 ((nc_le (a := 201) (b := lo + i) (by omega) (by omega)).mpr q9)
        refine lv_aload_n hx hb dX0_fill_24 rfl (lv_at hl 2 rfl) ?_
        refine lv_iload hx hb dX0_fill_25 (lv_at hl 0 rfl) ?_
        refine vp_callSi (va_runV (As := [.int (nI (lo + i))]) (rest := []) ⟨hx, hb, hml, hown, hts⟩ (conX0_holds l D T h a ((fillS f v lo i).1) (nI (lo + i))) (cwV 1 hts gX0_fill_X0_holds rfl rfl rfl (by decide +kernel) ⟨Nat.le_of_ble_eq_true rfl, Nat.le_of_ble_eq_true rfl⟩) (preV hK hh rfl ⟨hh, ha, hne⟩) rfl rfl hl.1 rfl (lv_room (Nat.le_of_ble_eq_true rfl)) dX0_fill_27 ⟨Nat.le_of_ble_eq_true rfl, Nat.le_of_ble_eq_true rfl⟩).run (fun r4 hr4 => ?_)
        subst hr4
        refine lv_iload_n hx hb dX0_fill_30 rfl (lv_at hl 5 rfl) ?_
        refine lv_icmp_eq (tgt := 44) hx hb dX0_fill_31 (by decide) (fun c31 => ?_) (fun c31 => ?_)
        · skip
          refine lv_iinc (v := nI (lo + i + 1)) (lv' := [(5, .int (nI (lo + i + 1))), (4, .int ((fillS f v lo i).2)), (0, .ref h), (1, .int (nI lo)), (2, .int last), (3, .int v)]) hx hb dX0_fill_44 hl (k := 0) rfl (inc_1 _) (by decide) rfl (fun ls hl => ?_)
          refine lv_goto (tgt := 10) hx hb dX0_fill_47 (by decide) ?_
          have e5 : nI (lo + i + 1) = nI (lo + (i + 1)) := by first | rfl | exact jmax_0 (by omega)
          have e6 : (fillS f v lo i).2 = (fillS f v lo (i + 1)).2 := by first | rfl | (rw [fillS_s, if_pos c31]; done) | (rw [fillS_s, if_neg c31]; done)
          have e7 : (eN (T 0) 201 ((fillS f v lo i).1)) = (eN (T 0) 201 ((fillS f v lo (i + 1)).1)) := by first | rfl | (rw [fillS_s, if_pos c31]; done) | (rw [fillS_s, if_neg c31]; done)
          exact hnext _ _ _ ⟨hS, lv_sub (lv_ex (lv_ex hl 0 rfl (congrArg Value.int e5)) 1 rfl (congrArg Value.int e6)) [0, 1, 2, 3, 4, 5] rfl, hh, (by rw [← e7]; exact ha)⟩
        · skip
          refine lv_aload_n hx hb dX0_fill_34 rfl (lv_at hl 2 rfl) ?_
          refine lv_iload hx hb dX0_fill_35 (lv_at hl 0 rfl) ?_
          refine lv_iload_n hx hb dX0_fill_37 rfl (lv_at hl 5 rfl) ?_
          refine va_callv (va_runV (As := [.int (nI (lo + i)), .int v]) (rest := []) ⟨hx, hb, hml, hown, hts⟩ (conX0_write l D T h a ((fillS f v lo i).1) (nI (lo + i)) v (hv)) (cwV 2 hts gX0_fill_X0_write rfl rfl rfl (by decide +kernel) ⟨Nat.le_of_ble_eq_true rfl, Nat.le_of_ble_eq_true rfl⟩) (preV hK hh rfl ⟨hh, ha, hne⟩) rfl rfl hl.1 rfl (lv_room (Nat.le_of_ble_eq_true rfl)) dX0_fill_38 ⟨Nat.le_of_ble_eq_true rfl, Nat.le_of_ble_eq_true rfl⟩) hS (fun q _ h9 => (by have h8 : q = a := h9; rw [h8]; exact hA_a)) (fun q h9 => (by have h8 : q = a := h9; rw [h8]; exact hA_a)) (fun u t H1 locs1 ht hvm hw hB hz1 hk1 hS => ?_)
          try dsimp only at hB
          rw [ht] at hB
          replace hh := hh.kept (hk1 _ hh.lt (fun h9 => hne h9))
          have ha := hB
          refine lv_iinc (v := ((fillS f v lo i).2) + 1) (lv' := [(4, .int (((fillS f v lo i).2) + 1)), (5, .int (nI (lo + i))), (0, .ref h), (1, .int (nI lo)), (2, .int last), (3, .int v)]) hx hb dX0_fill_41 hl (k := 1) rfl (rfl) (by decide) rfl (fun ls hl => ?_)
          refine lv_iinc (v := nI (lo + i + 1)) (lv' := [(5, .int (nI (lo + i + 1))), (4, .int (((fillS f v lo i).2) + 1)), (0, .ref h), (1, .int (nI lo)), (2, .int last), (3, .int v)]) hx hb dX0_fill_44 hl (k := 1) rfl (inc_1 _) (by decide) rfl (fun ls hl => ?_)
          refine lv_goto (tgt := 10) hx hb dX0_fill_47 (by decide) ?_
          have e8 : nI (lo + i + 1) = nI (lo + (i + 1)) := by first | rfl | exact jmax_0 (by omega)
          have e9 : ((fillS f v lo i).2) + 1 = (fillS f v lo (i + 1)).2 := by first | rfl | (rw [fillS_s, if_pos c31]; done) | (rw [fillS_s, if_neg c31]; done)
          have e10 : (eN (T 0) 201 (wrZ ((fillS f v lo i).1) (nI (lo + i)) v)) = (eN (T 0) 201 ((fillS f v lo (i + 1)).1)) := by first | rfl | (rw [fillS_s, if_pos c31]; done) | (rw [fillS_s, if_neg c31]; done)
          exact hnext _ _ _ ⟨hS, lv_sub (lv_ex (lv_ex hl 0 rfl (congrArg Value.int e8)) 1 rfl (congrArg Value.int e9)) [0, 1, 2, 3, 4, 5] rfl, hh, (by rw [← e10]; exact ha)⟩
  · skip
    intro H locs ls hin9
    obtain ⟨hS, hl, hh, ha⟩ := hin9
    refine lv_iload hx hb dX0_fill_10 (lv_at hl 0 rfl) ?_
    refine lv_iload_n hx hb dX0_fill_12 rfl (lv_at hl 4 rfl) ?_
    refine lv_icmp_gt (tgt := 50) hx hb dX0_fill_13 (by decide) (fun c13 => ?_) (fun c13 => ?_)
    · skip
      have c13 : hi ≤ lo + (min hi 201 - lo) := (lt_pred hla (by omega)).mp c13
      refine lv_iload hx hb dX0_fill_50 (lv_at hl 1 rfl) ?_
      exact W.iret (v := (fillS f v lo (min hi 201 - lo)).2) hx hb hr (fun t ht _ => ⟨⟨(fillS f v lo (min hi 201 - lo)).2, (), rfl, by rfl, by dsimp only; rw [ht]; exact ha⟩, hS.F ht⟩) hS.2.2 dX0_fill_52
    · skip
      have c13 : ¬ (hi ≤ lo + (min hi 201 - lo)) := fun q9 => c13 ((lt_pred hla (by omega)).mpr q9)
      refine lv_iload hx hb dX0_fill_16 (lv_at hl 0 rfl) ?_
      refine lv_sipush (v := nI 201) hx hb dX0_fill_18 (by decide) ?_
      refine lv_icmp_ge (tgt := 50) hx hb dX0_fill_21 (by decide) (fun c21 => ?_) (fun c21 => ?_)
      · skip
        have c21 : 201 ≤ lo + (min hi 201 - lo) := (nc_le (a := 201) (b := lo + (min hi 201 - lo)) (by omega) (by omega)).mp c21
        refine lv_iload hx hb dX0_fill_50 (lv_at hl 1 rfl) ?_
        exact W.iret (v := (fillS f v lo (min hi 201 - lo)).2) hx hb hr (fun t ht _ => ⟨⟨(fillS f v lo (min hi 201 - lo)).2, (), rfl, by rfl, by dsimp only; rw [ht]; exact ha⟩, hS.F ht⟩) hS.2.2 dX0_fill_52
      · skip
        have c21 : ¬ (201 ≤ lo + (min hi 201 - lo)) := fun q9 => c21 ((nc_le (a := 201) (b := lo + (min hi 201 - lo)) (by omega) (by omega)).mpr q9)
        omega

set_option maxHeartbeats 4000000 in
set_option maxRecDepth 100000 in
theorem conX0_copyFrom (l : Launch) (D : va_G) (T : Nat → ClassId) (h a : Nat) (f : Nat → Int32) (h2 a2 : Nat) (g : Nat → Int32) : Met l yX0_copyFrom wsX0_copyFrom ({ frames := 1, cells := 0, slots := 0, locals := 22 }) (cP D T [.ref h, .ref h2] (fun H => GS D T h a f H ∧ GS D T h2 a2 g H ∧ h2 ≠ a ∧ a2 ≠ a)) (va_Qv (fun (_ : Unit) => True) (fun _ t => pAt D t.heap a (eN (T 0) 201 (copyZ f g 201))) (fun q : Nat => q = a)) 0 0 (fun q : Nat => q = a) := by
  refine Met.ofW (cc := cX0_copyFrom) (maxL := 3) (ret := none) (by decide) rfl ?_
  intro p e s m args below meth c s₁ B hml hv9
  obtain ⟨rfl, hK, ⟨hh, ha, hne⟩, ⟨gh, ga, gne⟩, hn2, hn3⟩ := hv9
  have hx := B.exec
  have hb := B.bytes
  have hr := B.returns
  have hts := atoms_spec (ws := wsX0_copyFrom) B.pre
  have hown : s.vm.findClass RX0 = some m.cls := findClass_of_methodNamed B.named
  have hlocks := B.notSynchronized
  generalize hAe : (fun q : Nat => q = a) = A
  have hA_a : A a := by subst hAe; first | rfl | exact Or.inl rfl | exact Or.inr rfl | (simp; done)
  have hS : va_S A s.heap s.heap [] := va_S.rf
  have hl := lv_entry ([.ref h, .ref h2]) (n := 3) (Nat.le_of_ble_eq_true rfl)
  rw [lg_entry_eq]
  generalize (lg_sl ([.ref h, .ref h2]) ++ List.replicate (3 - (lg_sl ([.ref h, .ref h2])).length) Slot.unset).toArray = ls at hl ⊢
  have hl : lv_has ls 3 [(0, .ref h), (1, .ref h2)] := hl
  refine lv_iconst (v := nI 0) hx hb dX0_copyFrom_0 (by decide) ?_
  refine lv_istore_n (lv' := [(2, .int (nI 0)), (0, .ref h), (1, .ref h2)]) hx hb dX0_copyFrom_1 rfl hl (by decide) rfl (fun ls hl => ?_)
  refine q_for (fun (i : Nat) (H : Heap) (locs : List Loc) (ls : Array Slot) => va_S A s.heap H locs ∧ lv_has ls 3 [(2, .int (nI i)), (0, .ref h), (1, .ref h2)] ∧ pAt D H h (eO 0 [.ref a]) ∧ pAt D H a (eN (T 0) 201 (copyZ f g i)) ∧ pAt D H h2 (eO 0 [.ref a2]) ∧ pAt D H a2 (eN (T 0) 201 g)) (N := 201) 0 (by omega) ?_ ?_ ?_
  · skip
    have e1 : (eN (T 0) 201 f) = (eN (T 0) 201 (copyZ f g 0)) := by rfl
    exact ⟨hS, lv_sub hl [0, 1, 2] rfl, hh, (by rw [← e1]; exact ha), gh, ga⟩
  · skip
    intro i H locs ls hi9 hin9 hnext
    obtain ⟨hS, hl, hh, ha, gh, ga⟩ := hin9
    refine lv_iload_n hx hb dX0_copyFrom_2 rfl (lv_at hl 0 rfl) ?_
    refine lv_sipush (v := nI 201) hx hb dX0_copyFrom_3 (by decide) ?_
    refine lv_icmp_ge (tgt := 25) hx hb dX0_copyFrom_6 (by decide) (fun c6 => ?_) (fun c6 => ?_)
    · skip
      have c6 : 201 ≤ i := (nc_le (a := 201) (b := i) (by omega) (by omega)).mp c6
      omega
    · skip
      have c6 : ¬ (201 ≤ i) := fun q9 => c6 ((nc_le (a := 201) (b := i) (by omega) (by omega)).mpr q9)
      refine lv_aload_n hx hb dX0_copyFrom_9 rfl (lv_at hl 1 rfl) ?_
      refine lv_iload_n hx hb dX0_copyFrom_10 rfl (lv_at hl 0 rfl) ?_
      refine lv_aload_n hx hb dX0_copyFrom_11 rfl (lv_at hl 2 rfl) ?_
      refine lv_iload_n hx hb dX0_copyFrom_12 rfl (lv_at hl 0 rfl) ?_
      refine vp_callSi (va_runV (As := [.int (nI i)]) (rest := [.int (nI i), .ref h]) ⟨hx, hb, hml, hown, hts⟩ (conX0_holds l D T h2 a2 g (nI i)) (cwV 1 hts gX0_copyFrom_X0_holds rfl rfl rfl (by decide +kernel) ⟨Nat.le_of_ble_eq_true rfl, Nat.le_of_ble_eq_true rfl⟩) (preV hK gh rfl ⟨gh, ga, gne⟩) rfl rfl hl.1 rfl (lv_room (Nat.le_of_ble_eq_true rfl)) dX0_copyFrom_13 ⟨Nat.le_of_ble_eq_true rfl, Nat.le_of_ble_eq_true rfl⟩).run (fun r2 hr2 => ?_)
      subst hr2
      refine va_callv (va_runV (As := [.int (nI i), .int (holdZ g (nI i))]) (rest := []) ⟨hx, hb, hml, hown, hts⟩ (conX0_write l D T h a (copyZ f g i) (nI i) (holdZ g (nI i)) (nar_holdZ _ _)) (cwV 2 hts gX0_copyFrom_X0_write rfl rfl rfl (by decide +kernel) ⟨Nat.le_of_ble_eq_true rfl, Nat.le_of_ble_eq_true rfl⟩) (preV hK hh rfl ⟨hh, ha, hne⟩) rfl rfl hl.1 rfl (lv_room (Nat.le_of_ble_eq_true rfl)) dX0_copyFrom_16 ⟨Nat.le_of_ble_eq_true rfl, Nat.le_of_ble_eq_true rfl⟩) hS (fun q _ h9 => (by have h8 : q = a := h9; rw [h8]; exact hA_a)) (fun q h9 => (by have h8 : q = a := h9; rw [h8]; exact hA_a)) (fun u t H1 locs1 ht hvm hw hB hz1 hk1 hS => ?_)
      try dsimp only at hB
      rw [ht] at hB
      replace hh := hh.kept (hk1 _ hh.lt (fun h9 => hne h9))
      replace gh := gh.kept (hk1 _ gh.lt (fun h9 => hn2 h9))
      replace ga := ga.kept (hk1 _ ga.lt (fun h9 => hn3 h9))
      have ha := hB
      refine lv_iinc (v := nI (i + 1)) (lv' := [(2, .int (nI (i + 1))), (0, .ref h), (1, .ref h2)]) hx hb dX0_copyFrom_19 hl (k := 0) rfl (inc_1 _) (by decide) rfl (fun ls hl => ?_)
      refine lv_goto (tgt := 2) hx hb dX0_copyFrom_22 (by decide) ?_
      have e3 : (eN (T 0) 201 (wrZ (copyZ f g i) (nI i) (holdZ g (nI i)))) = (eN (T 0) 201 (copyZ f g (i + 1))) := by rfl
      exact hnext _ _ _ ⟨hS, lv_sub hl [0, 1, 2] rfl, hh, (by rw [← e3]; exact ha), gh, ga⟩
  · skip
    intro H locs ls hin9
    obtain ⟨hS, hl, hh, ha, gh, ga⟩ := hin9
    refine lv_iload_n hx hb dX0_copyFrom_2 rfl (lv_at hl 0 rfl) ?_
    refine lv_sipush (v := nI 201) hx hb dX0_copyFrom_3 (by decide) ?_
    refine lv_icmp_ge (tgt := 25) hx hb dX0_copyFrom_6 (by decide) (fun c6 => ?_) (fun c6 => ?_)
    · skip
      have c6 : 201 ≤ 201 := (nc_le (a := 201) (b := 201) (by omega) (by omega)).mp c6
      exact W.vret hx hb hr (fun t ht _ => ⟨⟨(), rfl, trivial, by dsimp only; rw [ht]; exact ha⟩, hS.F ht⟩) hS.2.2 dX0_copyFrom_25
    · skip
      have c6 : ¬ (201 ≤ 201) := fun q9 => c6 ((nc_le (a := 201) (b := 201) (by omega) (by omega)).mpr q9)
      omega

set_option maxHeartbeats 4000000 in
set_option maxRecDepth 100000 in
theorem conX0_invert (l : Launch) (D : va_G) (T : Nat → ClassId) (h a : Nat) (f : Nat → Int32) : Met l yX0_invert wsX0_invert ({ frames := 1, cells := 0, slots := 0, locals := 22 }) (cP D T [.ref h] (fun H => GS D T h a f H)) (va_Qv (fun (_ : Unit) => True) (fun _ t => pAt D t.heap a (eN (T 0) 201 (invZ f 201))) (fun q : Nat => q = a)) 0 0 (fun q : Nat => q = a) := by
  refine Met.ofW (cc := cX0_invert) (maxL := 2) (ret := none) (by decide) rfl ?_
  intro p e s m args below meth c s₁ B hml hv9
  obtain ⟨rfl, hK, hh, ha, hne⟩ := hv9
  have hx := B.exec
  have hb := B.bytes
  have hr := B.returns
  have hts := atoms_spec (ws := wsX0_invert) B.pre
  have hown : s.vm.findClass RX0 = some m.cls := findClass_of_methodNamed B.named
  have hlocks := B.notSynchronized
  generalize hAe : (fun q : Nat => q = a) = A
  have hA_a : A a := by subst hAe; first | rfl | exact Or.inl rfl | exact Or.inr rfl | (simp; done)
  have hS : va_S A s.heap s.heap [] := va_S.rf
  have hl := lv_entry ([.ref h]) (n := 2) (Nat.le_of_ble_eq_true rfl)
  rw [lg_entry_eq]
  generalize (lg_sl ([.ref h]) ++ List.replicate (2 - (lg_sl ([.ref h])).length) Slot.unset).toArray = ls at hl ⊢
  have hl : lv_has ls 2 [(0, .ref h)] := hl
  refine lv_iconst (v := nI 0) hx hb dX0_invert_0 (by decide) ?_
  refine lv_istore_n (lv' := [(1, .int (nI 0)), (0, .ref h)]) hx hb dX0_invert_1 rfl hl (by decide) rfl (fun ls hl => ?_)
  refine q_for (fun (i : Nat) (H : Heap) (locs : List Loc) (ls : Array Slot) => va_S A s.heap H locs ∧ lv_has ls 2 [(1, .int (nI i)), (0, .ref h)] ∧ pAt D H h (eO 0 [.ref a]) ∧ pAt D H a (eN (T 0) 201 (invZ f i))) (N := 201) 0 (by omega) ?_ ?_ ?_
  · skip
    have e1 : (eN (T 0) 201 f) = (eN (T 0) 201 (invZ f 0)) := by first | rfl | (rw [invZ_s, if_pos c16]; done) | (rw [invZ_s, if_neg c16]; done)
    exact ⟨hS, lv_sub hl [0, 1] rfl, hh, (by rw [← e1]; exact ha)⟩
  · skip
    intro i H locs ls hi9 hin9 hnext
    obtain ⟨hS, hl, hh, ha⟩ := hin9
    refine lv_iload_n hx hb dX0_invert_2 rfl (lv_at hl 0 rfl) ?_
    refine lv_sipush (v := nI 201) hx hb dX0_invert_3 (by decide) ?_
    refine lv_icmp_ge (tgt := 33) hx hb dX0_invert_6 (by decide) (fun c6 => ?_) (fun c6 => ?_)
    · skip
      have c6 : 201 ≤ i := (nc_le (a := 201) (b := i) (by omega) (by omega)).mp c6
      omega
    · skip
      have c6 : ¬ (201 ≤ i) := fun q9 => c6 ((nc_le (a := 201) (b := i) (by omega) (by omega)).mpr q9)
      refine lv_aload_n hx hb dX0_invert_9 rfl (lv_at hl 1 rfl) ?_
      refine lv_iload_n hx hb dX0_invert_10 rfl (lv_at hl 0 rfl) ?_
      refine lv_aload_n hx hb dX0_invert_11 rfl (lv_at hl 1 rfl) ?_
      refine lv_iload_n hx hb dX0_invert_12 rfl (lv_at hl 0 rfl) ?_
      refine vp_callSi (va_runV (As := [.int (nI i)]) (rest := [.int (nI i), .ref h]) ⟨hx, hb, hml, hown, hts⟩ (conX0_holds l D T h a (invZ f i) (nI i)) (cwV 1 hts gX0_invert_X0_holds rfl rfl rfl (by decide +kernel) ⟨Nat.le_of_ble_eq_true rfl, Nat.le_of_ble_eq_true rfl⟩) (preV hK hh rfl ⟨hh, ha, hne⟩) rfl rfl hl.1 rfl (lv_room (Nat.le_of_ble_eq_true rfl)) dX0_invert_13 ⟨Nat.le_of_ble_eq_true rfl, Nat.le_of_ble_eq_true rfl⟩).run (fun r2 hr2 => ?_)
      subst hr2
      refine lv_if_ne (tgt := 23) hx hb dX0_invert_16 (by decide) (fun c16 => ?_) (fun c16 => ?_)
      · skip
        refine lv_iconst (v := nI 0) hx hb dX0_invert_23 (by decide) ?_
        refine va_callv (va_runV (As := [.int (nI i), .int (nI 0)]) (rest := []) ⟨hx, hb, hml, hown, hts⟩ (conX0_write l D T h a (invZ f i) (nI i) (nI 0) (rfl)) (cwV 2 hts gX0_invert_X0_write rfl rfl rfl (by decide +kernel) ⟨Nat.le_of_ble_eq_true rfl, Nat.le_of_ble_eq_true rfl⟩) (preV hK hh rfl ⟨hh, ha, hne⟩) rfl rfl hl.1 rfl (lv_room (Nat.le_of_ble_eq_true rfl)) dX0_invert_24 ⟨Nat.le_of_ble_eq_true rfl, Nat.le_of_ble_eq_true rfl⟩) hS (fun q _ h9 => (by have h8 : q = a := h9; rw [h8]; exact hA_a)) (fun q h9 => (by have h8 : q = a := h9; rw [h8]; exact hA_a)) (fun u t H1 locs1 ht hvm hw hB hz1 hk1 hS => ?_)
        try dsimp only at hB
        rw [ht] at hB
        replace hh := hh.kept (hk1 _ hh.lt (fun h9 => hne h9))
        have ha := hB
        refine lv_iinc (v := nI (i + 1)) (lv' := [(1, .int (nI (i + 1))), (0, .ref h)]) hx hb dX0_invert_27 hl (k := 0) rfl (inc_1 _) (by decide) rfl (fun ls hl => ?_)
        refine lv_goto (tgt := 2) hx hb dX0_invert_30 (by decide) ?_
        have e3 : (eN (T 0) 201 (wrZ (invZ f i) (nI i) (nI 0))) = (eN (T 0) 201 (invZ f (i + 1))) := by first | rfl | (rw [invZ_s, if_pos c16]; done) | (rw [invZ_s, if_neg c16]; done)
        exact hnext _ _ _ ⟨hS, lv_sub hl [0, 1] rfl, hh, (by rw [← e3]; exact ha)⟩
      · skip
        refine lv_iconst (v := nI 1) hx hb dX0_invert_19 (by decide) ?_
        refine lv_goto (tgt := 24) hx hb dX0_invert_20 (by decide) ?_
        refine va_callv (va_runV (As := [.int (nI i), .int (nI 1)]) (rest := []) ⟨hx, hb, hml, hown, hts⟩ (conX0_write l D T h a (invZ f i) (nI i) (nI 1) (rfl)) (cwV 2 hts gX0_invert_X0_write rfl rfl rfl (by decide +kernel) ⟨Nat.le_of_ble_eq_true rfl, Nat.le_of_ble_eq_true rfl⟩) (preV hK hh rfl ⟨hh, ha, hne⟩) rfl rfl hl.1 rfl (lv_room (Nat.le_of_ble_eq_true rfl)) dX0_invert_24 ⟨Nat.le_of_ble_eq_true rfl, Nat.le_of_ble_eq_true rfl⟩) hS (fun q _ h9 => (by have h8 : q = a := h9; rw [h8]; exact hA_a)) (fun q h9 => (by have h8 : q = a := h9; rw [h8]; exact hA_a)) (fun u t H1 locs1 ht hvm hw hB hz1 hk1 hS => ?_)
        try dsimp only at hB
        rw [ht] at hB
        replace hh := hh.kept (hk1 _ hh.lt (fun h9 => hne h9))
        have ha := hB
        refine lv_iinc (v := nI (i + 1)) (lv' := [(1, .int (nI (i + 1))), (0, .ref h)]) hx hb dX0_invert_27 hl (k := 0) rfl (inc_1 _) (by decide) rfl (fun ls hl => ?_)
        refine lv_goto (tgt := 2) hx hb dX0_invert_30 (by decide) ?_
        have e4 : (eN (T 0) 201 (wrZ (invZ f i) (nI i) (nI 1))) = (eN (T 0) 201 (invZ f (i + 1))) := by first | rfl | (rw [invZ_s, if_pos c16]; done) | (rw [invZ_s, if_neg c16]; done)
        exact hnext _ _ _ ⟨hS, lv_sub hl [0, 1] rfl, hh, (by rw [← e4]; exact ha)⟩
  · skip
    intro H locs ls hin9
    obtain ⟨hS, hl, hh, ha⟩ := hin9
    refine lv_iload_n hx hb dX0_invert_2 rfl (lv_at hl 0 rfl) ?_
    refine lv_sipush (v := nI 201) hx hb dX0_invert_3 (by decide) ?_
    refine lv_icmp_ge (tgt := 33) hx hb dX0_invert_6 (by decide) (fun c6 => ?_) (fun c6 => ?_)
    · skip
      have c6 : 201 ≤ 201 := (nc_le (a := 201) (b := 201) (by omega) (by omega)).mp c6
      exact W.vret hx hb hr (fun t ht _ => ⟨⟨(), rfl, trivial, by dsimp only; rw [ht]; exact ha⟩, hS.F ht⟩) hS.2.2 dX0_invert_33
    · skip
      have c6 : ¬ (201 ≤ 201) := fun q9 => c6 ((nc_le (a := 201) (b := 201) (by omega) (by omega)).mpr q9)
      omega
end
section
set_option maxHeartbeats 4000000 in
set_option maxRecDepth 100000 in
theorem conX0_isInside (l : Launch) (D : va_G) (T : Nat → ClassId) (h a : Nat) (f : Nat → Int32) (h2 a2 : Nat) (g : Nat → Int32) : Met l yX0_isInside wsX0_isInside ({ frames := 1, cells := 0, slots := 0, locals := 21 }) (cP D T [.ref h, .ref h2] (fun H => GS D T h a f H ∧ GS D T h2 a2 g H)) (vp_Si (fun r => (r = nI 1 ∧ ∀ j : Nat, j < 201 → ¬ holdZ f (nI j) = 0 → ¬ holdZ g (nI j) = 0) ∨ (r = nI 0 ∧ ∃ j : Nat, j < 201 ∧ ¬ holdZ f (nI j) = 0 ∧ holdZ g (nI j) = 0))) 0 0 (fun _ => False) := by
  refine Met.ofW (cc := cX0_isInside) (maxL := 3) (ret := (some .boolean)) (by decide) rfl ?_
  intro p e s m args below meth c s₁ B hml hv9
  obtain ⟨rfl, hK, ⟨hh, ha, hne⟩, ⟨gh, ga, gne⟩⟩ := hv9
  have hx := B.exec
  have hb := B.bytes
  have hr := B.returns
  have hts := atoms_spec (ws := wsX0_isInside) B.pre
  have hown : s.vm.findClass RX0 = some m.cls := findClass_of_methodNamed B.named
  have hlocks := B.notSynchronized
  have hl := lv_entry ([.ref h, .ref h2]) (n := 3) (Nat.le_of_ble_eq_true rfl)
  rw [lg_entry_eq]
  generalize (lg_sl ([.ref h, .ref h2]) ++ List.replicate (3 - (lg_sl ([.ref h, .ref h2])).length) Slot.unset).toArray = ls at hl ⊢
  have hl : lv_has ls 3 [(0, .ref h), (1, .ref h2)] := hl
  refine lv_iconst (v := nI 0) hx hb dX0_isInside_0 (by decide) ?_
  refine lv_istore_n (lv' := [(2, .int (nI 0)), (0, .ref h), (1, .ref h2)]) hx hb dX0_isInside_1 rfl hl (by decide) rfl (fun ls hl => ?_)
  refine q_for (fun (i : Nat) (H : Heap) (locs : List Loc) (ls : Array Slot) => H = s.heap ∧ locs = [] ∧ lv_has ls 3 [(2, .int (nI i)), (0, .ref h), (1, .ref h2)] ∧ ∀ j : Nat, j < i → ¬ holdZ f (nI j) = 0 → ¬ holdZ g (nI j) = 0) (N := 201) 0 (by omega) ?_ ?_ ?_
  · skip
    exact ⟨rfl, rfl, lv_sub hl [0, 1, 2] rfl, (by intro j hj; omega)⟩
  · skip
    intro i H locs ls hi9 hin9 hnext
    obtain ⟨rfl, rfl, hl, hin⟩ := hin9
    refine lv_iload_n hx hb dX0_isInside_2 rfl (lv_at hl 0 rfl) ?_
    refine lv_sipush (v := nI 201) hx hb dX0_isInside_3 (by decide) ?_
    refine lv_icmp_ge (tgt := 33) hx hb dX0_isInside_6 (by decide) (fun c6 => ?_) (fun c6 => ?_)
    · skip
      have c6 : 201 ≤ i := (nc_le (a := 201) (b := i) (by omega) (by omega)).mp c6
      omega
    · skip
      have c6 : ¬ (201 ≤ i) := fun q9 => c6 ((nc_le (a := 201) (b := i) (by omega) (by omega)).mpr q9)
      refine lv_aload_n hx hb dX0_isInside_9 rfl (lv_at hl 1 rfl) ?_
      refine lv_iload_n hx hb dX0_isInside_10 rfl (lv_at hl 0 rfl) ?_
      refine vp_callSi (va_runV (As := [.int (nI i)]) (rest := []) ⟨hx, hb, hml, hown, hts⟩ (conX0_holds l D T h a f (nI i)) (cwV 1 hts gX0_isInside_X0_holds rfl rfl rfl (by decide +kernel) ⟨Nat.le_of_ble_eq_true rfl, Nat.le_of_ble_eq_true rfl⟩) (preV hK hh rfl ⟨hh, ha, hne⟩) rfl rfl hl.1 rfl (lv_room (Nat.le_of_ble_eq_true rfl)) dX0_isInside_11 ⟨Nat.le_of_ble_eq_true rfl, Nat.le_of_ble_eq_true rfl⟩).run (fun r1 hr1 => ?_)
      subst hr1
      refine lv_if_eq (tgt := 27) hx hb dX0_isInside_14 (by decide) (fun c14 => ?_) (fun c14 => ?_)
      · skip
        refine lv_iinc (v := nI (i + 1)) (lv' := [(2, .int (nI (i + 1))), (0, .ref h), (1, .ref h2)]) hx hb dX0_isInside_27 hl (k := 0) rfl (inc_1 _) (by decide) rfl (fun ls hl => ?_)
        refine lv_goto (tgt := 2) hx hb dX0_isInside_30 (by decide) ?_
        exact hnext _ _ _ ⟨rfl, rfl, lv_sub hl [0, 1, 2] rfl, (by intro j hj; rcases Nat.lt_succ_iff_lt_or_eq.mp hj with q | rfl; exact hin j q; first | exact fun h8 => absurd c14 h8 | exact fun _ => c22)⟩
      · skip
        refine lv_aload_n hx hb dX0_isInside_17 rfl (lv_at hl 2 rfl) ?_
        refine lv_iload_n hx hb dX0_isInside_18 rfl (lv_at hl 0 rfl) ?_
        refine vp_callSi (va_runV (As := [.int (nI i)]) (rest := []) ⟨hx, hb, hml, hown, hts⟩ (conX0_holds l D T h2 a2 g (nI i)) (cwV 1 hts gX0_isInside_X0_holds rfl rfl rfl (by decide +kernel) ⟨Nat.le_of_ble_eq_true rfl, Nat.le_of_ble_eq_true rfl⟩) (preV hK gh rfl ⟨gh, ga, gne⟩) rfl rfl hl.1 rfl (lv_room (Nat.le_of_ble_eq_true rfl)) dX0_isInside_19 ⟨Nat.le_of_ble_eq_true rfl, Nat.le_of_ble_eq_true rfl⟩).run (fun r2 hr2 => ?_)
        subst hr2
        refine lv_if_ne (tgt := 27) hx hb dX0_isInside_22 (by decide) (fun c22 => ?_) (fun c22 => ?_)
        · skip
          refine lv_iinc (v := nI (i + 1)) (lv' := [(2, .int (nI (i + 1))), (0, .ref h), (1, .ref h2)]) hx hb dX0_isInside_27 hl (k := 0) rfl (inc_1 _) (by decide) rfl (fun ls hl => ?_)
          refine lv_goto (tgt := 2) hx hb dX0_isInside_30 (by decide) ?_
          exact hnext _ _ _ ⟨rfl, rfl, lv_sub hl [0, 1, 2] rfl, (by intro j hj; rcases Nat.lt_succ_iff_lt_or_eq.mp hj with q | rfl; exact hin j q; first | exact fun h8 => absurd c14 h8 | exact fun _ => c22)⟩
        · skip
          refine lv_iconst (v := nI 0) hx hb dX0_isInside_25 (by decide) ?_
          exact W.zret (v := nI 0) hx hb hr (rfl) (fun t ht _ => ⟨nI 0, rfl, by exact Or.inr ⟨rfl, i, by omega, c14, c22⟩, ht⟩) (fun q hq => absurd hq List.not_mem_nil) dX0_isInside_26
  · skip
    intro H locs ls hin9
    obtain ⟨rfl, rfl, hl, hin⟩ := hin9
    refine lv_iload_n hx hb dX0_isInside_2 rfl (lv_at hl 0 rfl) ?_
    refine lv_sipush (v := nI 201) hx hb dX0_isInside_3 (by decide) ?_
    refine lv_icmp_ge (tgt := 33) hx hb dX0_isInside_6 (by decide) (fun c6 => ?_) (fun c6 => ?_)
    · skip
      have c6 : 201 ≤ 201 := (nc_le (a := 201) (b := 201) (by omega) (by omega)).mp c6
      refine lv_iconst (v := nI 1) hx hb dX0_isInside_33 (by decide) ?_
      exact W.zret (v := nI 1) hx hb hr (rfl) (fun t ht _ => ⟨nI 1, rfl, by exact Or.inl ⟨rfl, hin⟩, ht⟩) (fun q hq => absurd hq List.not_mem_nil) dX0_isInside_34
    · skip
      have c6 : ¬ (201 ≤ 201) := fun q9 => c6 ((nc_le (a := 201) (b := 201) (by omega) (by omega)).mpr q9)
      omega

set_option maxHeartbeats 4000000 in
set_option maxRecDepth 100000 in
theorem conX0_dropEdgePoints (l : Launch) (D : va_G) (T : Nat → ClassId) (h a : Nat) (f : Nat → Int32) : Met l yX0_dropEdgePoints wsX0_dropEdgePoints ({ frames := 1, cells := 0, slots := 0, locals := 22 }) (cP D T [.ref h] (fun H => GS D T h a f H)) (va_Qv (fun (_ : Unit) => True) (fun _ t => pAt D t.heap a (eN (T 0) 201 (dropZ f 101))) (fun q : Nat => q = a)) 0 0 (fun q : Nat => q = a) := by
  refine Met.ofW (cc := cX0_dropEdgePoints) (maxL := 4) (ret := none) (by decide) rfl ?_
  intro p e s m args below meth c s₁ B hml hv9
  obtain ⟨rfl, hK, hh, ha, hne⟩ := hv9
  have hx := B.exec
  have hb := B.bytes
  have hr := B.returns
  have hts := atoms_spec (ws := wsX0_dropEdgePoints) B.pre
  have hown : s.vm.findClass RX0 = some m.cls := findClass_of_methodNamed B.named
  have hlocks := B.notSynchronized
  generalize hAe : (fun q : Nat => q = a) = A
  have hA_a : A a := by subst hAe; first | rfl | exact Or.inl rfl | exact Or.inr rfl | (simp; done)
  have hS : va_S A s.heap s.heap [] := va_S.rf
  have hl := lv_entry ([.ref h]) (n := 4) (Nat.le_of_ble_eq_true rfl)
  rw [lg_entry_eq]
  generalize (lg_sl ([.ref h]) ++ List.replicate (4 - (lg_sl ([.ref h])).length) Slot.unset).toArray = ls at hl ⊢
  have hl : lv_has ls 4 [(0, .ref h)] := hl
  refine lv_iconst (v := nI 0) hx hb dX0_dropEdgePoints_0 (by decide) ?_
  refine lv_istore_n (lv' := [(1, .int (nI 0)), (0, .ref h)]) hx hb dX0_dropEdgePoints_1 rfl hl (by decide) rfl (fun ls hl => ?_)
  refine q_for (fun (i : Nat) (H : Heap) (locs : List Loc) (ls : Array Slot) => va_S A s.heap H locs ∧ lv_has ls 4 [(1, .int (nI (2 * i))), (0, .ref h)] ∧ pAt D H h (eO 0 [.ref a]) ∧ pAt D H a (eN (T 0) 201 (dropZ f i))) (N := 101) 0 (by omega) ?_ ?_ ?_
  · skip
    have e1 : (eN (T 0) 201 f) = (eN (T 0) 201 (dropZ f 0)) := by rfl
    exact ⟨hS, lv_sub hl [0, 1] rfl, hh, (by rw [← e1]; exact ha)⟩
  · skip
    intro i H locs ls hi9 hin9 hnext
    obtain ⟨hS, hl, hh, ha⟩ := hin9
    refine lv_iload_n hx hb dX0_dropEdgePoints_2 rfl (lv_at hl 0 rfl) ?_
    refine lv_sipush (v := nI 201) hx hb dX0_dropEdgePoints_3 (by decide) ?_
    refine lv_icmp_ge (tgt := 72) hx hb dX0_dropEdgePoints_6 (by decide) (fun c6 => ?_) (fun c6 => ?_)
    · skip
      have c6 : 201 ≤ 2 * i := (nc_le (a := 201) (b := 2 * i) (by omega) (by omega)).mp c6
      omega
    · skip
      have c6 : ¬ (201 ≤ 2 * i) := fun q9 => c6 ((nc_le (a := 201) (b := 2 * i) (by omega) (by omega)).mpr q9)
      refine lv_iload_n hx hb dX0_dropEdgePoints_9 rfl (lv_at hl 0 rfl) ?_
      refine lv_if_eq (tgt := 23) hx hb dX0_dropEdgePoints_10 (by decide) (fun c10 => ?_) (fun c10 => ?_)
      · skip
        have c10 : 2 * i = 0 := (nc_eq (a := 2 * i) (b := 0) (by omega) (by omega)).mp c10
        refine lv_iconst (v := nI 1) hx hb dX0_dropEdgePoints_23 (by decide) ?_
        refine lv_goto (tgt := 28) hx hb dX0_dropEdgePoints_24 (by decide) ?_
        refine lv_istore_n (lv' := [(2, .int (nI 1)), (1, .int (nI (2 * i))), (0, .ref h)]) hx hb dX0_dropEdgePoints_28 rfl hl (by decide) rfl (fun ls hl => ?_)
        refine lv_iload_n hx hb dX0_dropEdgePoints_29 rfl (lv_at hl 1 rfl) ?_
        refine lv_sipush (v := nI 200) hx hb dX0_dropEdgePoints_30 (by decide) ?_
        refine lv_icmp_eq (tgt := 46) hx hb dX0_dropEdgePoints_33 (by decide) (fun c33 => ?_) (fun c33 => ?_)
        · skip
          have c33 : 2 * i = 200 := (nc_eq (a := 2 * i) (b := 200) (by omega) (by omega)).mp c33
          refine lv_iconst (v := nI 1) hx hb dX0_dropEdgePoints_46 (by decide) ?_
          refine lv_goto (tgt := 51) hx hb dX0_dropEdgePoints_47 (by decide) ?_
          refine lv_istore_n (lv' := [(3, .int (nI 1)), (2, .int (nI 1)), (1, .int (nI (2 * i))), (0, .ref h)]) hx hb dX0_dropEdgePoints_51 rfl hl (by decide) rfl (fun ls hl => ?_)
          refine lv_iload_n hx hb dX0_dropEdgePoints_52 rfl (lv_at hl 1 rfl) ?_
          refine lv_if_eq (tgt := 60) hx hb dX0_dropEdgePoints_53 (by decide) (fun c53 => ?_) (fun c53 => ?_)
          · skip
            have c53 : 1 = 0 := (nc_eq (a := 1) (b := 0) (by omega) (by omega)).mp c53
            refine lv_aload_n hx hb dX0_dropEdgePoints_60 rfl (lv_at hl 3 rfl) ?_
            refine lv_iload_n hx hb dX0_dropEdgePoints_61 rfl (lv_at hl 2 rfl) ?_
            refine lv_iconst (v := nI 0) hx hb dX0_dropEdgePoints_62 (by decide) ?_
            refine va_callv (va_runV (As := [.int (nI (2 * i)), .int (nI 0)]) (rest := []) ⟨hx, hb, hml, hown, hts⟩ (conX0_write l D T h a (dropZ f i) (nI (2 * i)) (nI 0) (rfl)) (cwV 2 hts gX0_dropEdgePoints_X0_write rfl rfl rfl (by decide +kernel) ⟨Nat.le_of_ble_eq_true rfl, Nat.le_of_ble_eq_true rfl⟩) (preV hK hh rfl ⟨hh, ha, hne⟩) rfl rfl hl.1 rfl (lv_room (Nat.le_of_ble_eq_true rfl)) dX0_dropEdgePoints_63 ⟨Nat.le_of_ble_eq_true rfl, Nat.le_of_ble_eq_true rfl⟩) hS (fun q _ h9 => (by have h8 : q = a := h9; rw [h8]; exact hA_a)) (fun q h9 => (by have h8 : q = a := h9; rw [h8]; exact hA_a)) (fun u t H1 locs1 ht hvm hw hB hz1 hk1 hS => ?_)
            try dsimp only at hB
            rw [ht] at hB
            replace hh := hh.kept (hk1 _ hh.lt (fun h9 => hne h9))
            have ha := hB
            refine lv_iinc (v := nI ((2 * i) + 2)) (lv' := [(1, .int (nI ((2 * i) + 2))), (3, .int (nI 1)), (2, .int (nI 1)), (0, .ref h)]) hx hb dX0_dropEdgePoints_66 hl (k := 2) rfl (inc_2 _) (by decide) rfl (fun ls hl => ?_)
            refine lv_goto (tgt := 2) hx hb dX0_dropEdgePoints_69 (by decide) ?_
            have e2 : nI ((2 * i) + 2) = nI (2 * (i + 1)) := by (first | rfl | (congr 1; omega))
            have e3 : (eN (T 0) 201 (wrZ (dropZ f i) (nI (2 * i)) (nI 0))) = (eN (T 0) 201 (dropZ f (i + 1))) := by first | (rw [dropZ_s, if_pos (by simp_all)]; done) | (rw [dropZ_s, if_neg (by simp_all)]; done)
            exact hnext _ _ _ ⟨hS, lv_sub (lv_ex hl 0 rfl (congrArg Value.int e2)) [0, 3] rfl, hh, (by rw [← e3]; exact ha)⟩
          · skip
            have c53 : ¬ (1 = 0) := fun q9 => c53 ((nc_eq (a := 1) (b := 0) (by omega) (by omega)).mpr q9)
            refine lv_iload_n hx hb dX0_dropEdgePoints_56 rfl (lv_at hl 0 rfl) ?_
            refine lv_if_ne (tgt := 66) hx hb dX0_dropEdgePoints_57 (by decide) (fun c57 => ?_) (fun c57 => ?_)
            · skip
              have c57 : ¬ (1 = 0) := fun q9 => c57 ((nc_eq (a := 1) (b := 0) (by omega) (by omega)).mpr q9)
              refine lv_iinc (v := nI ((2 * i) + 2)) (lv' := [(1, .int (nI ((2 * i) + 2))), (3, .int (nI 1)), (2, .int (nI 1)), (0, .ref h)]) hx hb dX0_dropEdgePoints_66 hl (k := 2) rfl (inc_2 _) (by decide) rfl (fun ls hl => ?_)
              refine lv_goto (tgt := 2) hx hb dX0_dropEdgePoints_69 (by decide) ?_
              have e4 : nI ((2 * i) + 2) = nI (2 * (i + 1)) := by (first | rfl | (congr 1; omega))
              have e5 : (eN (T 0) 201 (dropZ f i)) = (eN (T 0) 201 (dropZ f (i + 1))) := by first | (rw [dropZ_s, if_pos (by simp_all)]; done) | (rw [dropZ_s, if_neg (by simp_all)]; done)
              exact hnext _ _ _ ⟨hS, lv_sub (lv_ex hl 0 rfl (congrArg Value.int e4)) [0, 3] rfl, hh, (by rw [← e5]; exact ha)⟩
            · skip
              have c57 : 1 = 0 := (nc_eq (a := 1) (b := 0) (by omega) (by omega)).mp c57
              refine lv_aload_n hx hb dX0_dropEdgePoints_60 rfl (lv_at hl 3 rfl) ?_
              refine lv_iload_n hx hb dX0_dropEdgePoints_61 rfl (lv_at hl 2 rfl) ?_
              refine lv_iconst (v := nI 0) hx hb dX0_dropEdgePoints_62 (by decide) ?_
              refine va_callv (va_runV (As := [.int (nI (2 * i)), .int (nI 0)]) (rest := []) ⟨hx, hb, hml, hown, hts⟩ (conX0_write l D T h a (dropZ f i) (nI (2 * i)) (nI 0) (rfl)) (cwV 2 hts gX0_dropEdgePoints_X0_write rfl rfl rfl (by decide +kernel) ⟨Nat.le_of_ble_eq_true rfl, Nat.le_of_ble_eq_true rfl⟩) (preV hK hh rfl ⟨hh, ha, hne⟩) rfl rfl hl.1 rfl (lv_room (Nat.le_of_ble_eq_true rfl)) dX0_dropEdgePoints_63 ⟨Nat.le_of_ble_eq_true rfl, Nat.le_of_ble_eq_true rfl⟩) hS (fun q _ h9 => (by have h8 : q = a := h9; rw [h8]; exact hA_a)) (fun q h9 => (by have h8 : q = a := h9; rw [h8]; exact hA_a)) (fun u t H1 locs1 ht hvm hw hB hz1 hk1 hS => ?_)
              try dsimp only at hB
              rw [ht] at hB
              replace hh := hh.kept (hk1 _ hh.lt (fun h9 => hne h9))
              have ha := hB
              refine lv_iinc (v := nI ((2 * i) + 2)) (lv' := [(1, .int (nI ((2 * i) + 2))), (3, .int (nI 1)), (2, .int (nI 1)), (0, .ref h)]) hx hb dX0_dropEdgePoints_66 hl (k := 2) rfl (inc_2 _) (by decide) rfl (fun ls hl => ?_)
              refine lv_goto (tgt := 2) hx hb dX0_dropEdgePoints_69 (by decide) ?_
              have e6 : nI ((2 * i) + 2) = nI (2 * (i + 1)) := by (first | rfl | (congr 1; omega))
              have e7 : (eN (T 0) 201 (wrZ (dropZ f i) (nI (2 * i)) (nI 0))) = (eN (T 0) 201 (dropZ f (i + 1))) := by first | (rw [dropZ_s, if_pos (by simp_all)]; done) | (rw [dropZ_s, if_neg (by simp_all)]; done)
              exact hnext _ _ _ ⟨hS, lv_sub (lv_ex hl 0 rfl (congrArg Value.int e6)) [0, 3] rfl, hh, (by rw [← e7]; exact ha)⟩
        · skip
          have c33 : ¬ (2 * i = 200) := fun q9 => c33 ((nc_eq (a := 2 * i) (b := 200) (by omega) (by omega)).mpr q9)
          refine lv_aload_n hx hb dX0_dropEdgePoints_36 rfl (lv_at hl 2 rfl) ?_
          refine lv_iload_n hx hb dX0_dropEdgePoints_37 rfl (lv_at hl 1 rfl) ?_
          refine lv_iconst (v := nI 1) hx hb dX0_dropEdgePoints_38 (by decide) ?_
          refine lv_iadd hx hb dX0_dropEdgePoints_39 ?_
          rw [nI_add]
          refine vp_callSi (va_runV (As := [.int (nI ((2 * i) + 1))]) (rest := []) ⟨hx, hb, hml, hown, hts⟩ (conX0_holds l D T h a (dropZ f i) (nI ((2 * i) + 1))) (cwV 1 hts gX0_dropEdgePoints_X0_holds rfl rfl rfl (by decide +kernel) ⟨Nat.le_of_ble_eq_true rfl, Nat.le_of_ble_eq_true rfl⟩) (preV hK hh rfl ⟨hh, ha, hne⟩) rfl rfl hl.1 rfl (lv_room (Nat.le_of_ble_eq_true rfl)) dX0_dropEdgePoints_40 ⟨Nat.le_of_ble_eq_true rfl, Nat.le_of_ble_eq_true rfl⟩).run (fun r8 hr8 => ?_)
          subst hr8
          refine lv_if_eq (tgt := 50) hx hb dX0_dropEdgePoints_43 (by decide) (fun c43 => ?_) (fun c43 => ?_)
          · skip
            refine lv_iconst (v := nI 0) hx hb dX0_dropEdgePoints_50 (by decide) ?_
            refine lv_istore_n (lv' := [(3, .int (nI 0)), (2, .int (nI 1)), (1, .int (nI (2 * i))), (0, .ref h)]) hx hb dX0_dropEdgePoints_51 rfl hl (by decide) rfl (fun ls hl => ?_)
            refine lv_iload_n hx hb dX0_dropEdgePoints_52 rfl (lv_at hl 1 rfl) ?_
            refine lv_if_eq (tgt := 60) hx hb dX0_dropEdgePoints_53 (by decide) (fun c53 => ?_) (fun c53 => ?_)
            · skip
              have c53 : 1 = 0 := (nc_eq (a := 1) (b := 0) (by omega) (by omega)).mp c53
              refine lv_aload_n hx hb dX0_dropEdgePoints_60 rfl (lv_at hl 3 rfl) ?_
              refine lv_iload_n hx hb dX0_dropEdgePoints_61 rfl (lv_at hl 2 rfl) ?_
              refine lv_iconst (v := nI 0) hx hb dX0_dropEdgePoints_62 (by decide) ?_
              refine va_callv (va_runV (As := [.int (nI (2 * i)), .int (nI 0)]) (rest := []) ⟨hx, hb, hml, hown, hts⟩ (conX0_write l D T h a (dropZ f i) (nI (2 * i)) (nI 0) (rfl)) (cwV 2 hts gX0_dropEdgePoints_X0_write rfl rfl rfl (by decide +kernel) ⟨Nat.le_of_ble_eq_true rfl, Nat.le_of_ble_eq_true rfl⟩) (preV hK hh rfl ⟨hh, ha, hne⟩) rfl rfl hl.1 rfl (lv_room (Nat.le_of_ble_eq_true rfl)) dX0_dropEdgePoints_63 ⟨Nat.le_of_ble_eq_true rfl, Nat.le_of_ble_eq_true rfl⟩) hS (fun q _ h9 => (by have h8 : q = a := h9; rw [h8]; exact hA_a)) (fun q h9 => (by have h8 : q = a := h9; rw [h8]; exact hA_a)) (fun u t H1 locs1 ht hvm hw hB hz1 hk1 hS => ?_)
              try dsimp only at hB
              rw [ht] at hB
              replace hh := hh.kept (hk1 _ hh.lt (fun h9 => hne h9))
              have ha := hB
              refine lv_iinc (v := nI ((2 * i) + 2)) (lv' := [(1, .int (nI ((2 * i) + 2))), (3, .int (nI 0)), (2, .int (nI 1)), (0, .ref h)]) hx hb dX0_dropEdgePoints_66 hl (k := 2) rfl (inc_2 _) (by decide) rfl (fun ls hl => ?_)
              refine lv_goto (tgt := 2) hx hb dX0_dropEdgePoints_69 (by decide) ?_
              have e9 : nI ((2 * i) + 2) = nI (2 * (i + 1)) := by (first | rfl | (congr 1; omega))
              have e10 : (eN (T 0) 201 (wrZ (dropZ f i) (nI (2 * i)) (nI 0))) = (eN (T 0) 201 (dropZ f (i + 1))) := by first | (rw [dropZ_s, if_pos (by simp_all)]; done) | (rw [dropZ_s, if_neg (by simp_all)]; done)
              exact hnext _ _ _ ⟨hS, lv_sub (lv_ex hl 0 rfl (congrArg Value.int e9)) [0, 3] rfl, hh, (by rw [← e10]; exact ha)⟩
            · skip
              have c53 : ¬ (1 = 0) := fun q9 => c53 ((nc_eq (a := 1) (b := 0) (by omega) (by omega)).mpr q9)
              refine lv_iload_n hx hb dX0_dropEdgePoints_56 rfl (lv_at hl 0 rfl) ?_
              refine lv_if_ne (tgt := 66) hx hb dX0_dropEdgePoints_57 (by decide) (fun c57 => ?_) (fun c57 => ?_)
              · skip
                have c57 : ¬ (0 = 0) := fun q9 => c57 ((nc_eq (a := 0) (b := 0) (by omega) (by omega)).mpr q9)
                refine lv_iinc (v := nI ((2 * i) + 2)) (lv' := [(1, .int (nI ((2 * i) + 2))), (3, .int (nI 0)), (2, .int (nI 1)), (0, .ref h)]) hx hb dX0_dropEdgePoints_66 hl (k := 2) rfl (inc_2 _) (by decide) rfl (fun ls hl => ?_)
                refine lv_goto (tgt := 2) hx hb dX0_dropEdgePoints_69 (by decide) ?_
                have e11 : nI ((2 * i) + 2) = nI (2 * (i + 1)) := by (first | rfl | (congr 1; omega))
                have e12 : (eN (T 0) 201 (dropZ f i)) = (eN (T 0) 201 (dropZ f (i + 1))) := by first | (rw [dropZ_s, if_pos (by simp_all)]; done) | (rw [dropZ_s, if_neg (by simp_all)]; done)
                exact hnext _ _ _ ⟨hS, lv_sub (lv_ex hl 0 rfl (congrArg Value.int e11)) [0, 3] rfl, hh, (by rw [← e12]; exact ha)⟩
              · skip
                have c57 : 0 = 0 := (nc_eq (a := 0) (b := 0) (by omega) (by omega)).mp c57
                refine lv_aload_n hx hb dX0_dropEdgePoints_60 rfl (lv_at hl 3 rfl) ?_
                refine lv_iload_n hx hb dX0_dropEdgePoints_61 rfl (lv_at hl 2 rfl) ?_
                refine lv_iconst (v := nI 0) hx hb dX0_dropEdgePoints_62 (by decide) ?_
                refine va_callv (va_runV (As := [.int (nI (2 * i)), .int (nI 0)]) (rest := []) ⟨hx, hb, hml, hown, hts⟩ (conX0_write l D T h a (dropZ f i) (nI (2 * i)) (nI 0) (rfl)) (cwV 2 hts gX0_dropEdgePoints_X0_write rfl rfl rfl (by decide +kernel) ⟨Nat.le_of_ble_eq_true rfl, Nat.le_of_ble_eq_true rfl⟩) (preV hK hh rfl ⟨hh, ha, hne⟩) rfl rfl hl.1 rfl (lv_room (Nat.le_of_ble_eq_true rfl)) dX0_dropEdgePoints_63 ⟨Nat.le_of_ble_eq_true rfl, Nat.le_of_ble_eq_true rfl⟩) hS (fun q _ h9 => (by have h8 : q = a := h9; rw [h8]; exact hA_a)) (fun q h9 => (by have h8 : q = a := h9; rw [h8]; exact hA_a)) (fun u t H1 locs1 ht hvm hw hB hz1 hk1 hS => ?_)
                try dsimp only at hB
                rw [ht] at hB
                replace hh := hh.kept (hk1 _ hh.lt (fun h9 => hne h9))
                have ha := hB
                refine lv_iinc (v := nI ((2 * i) + 2)) (lv' := [(1, .int (nI ((2 * i) + 2))), (3, .int (nI 0)), (2, .int (nI 1)), (0, .ref h)]) hx hb dX0_dropEdgePoints_66 hl (k := 2) rfl (inc_2 _) (by decide) rfl (fun ls hl => ?_)
                refine lv_goto (tgt := 2) hx hb dX0_dropEdgePoints_69 (by decide) ?_
                have e13 : nI ((2 * i) + 2) = nI (2 * (i + 1)) := by (first | rfl | (congr 1; omega))
                have e14 : (eN (T 0) 201 (wrZ (dropZ f i) (nI (2 * i)) (nI 0))) = (eN (T 0) 201 (dropZ f (i + 1))) := by first | (rw [dropZ_s, if_pos (by simp_all)]; done) | (rw [dropZ_s, if_neg (by simp_all)]; done)
                exact hnext _ _ _ ⟨hS, lv_sub (lv_ex hl 0 rfl (congrArg Value.int e13)) [0, 3] rfl, hh, (by rw [← e14]; exact ha)⟩
          · skip
            refine lv_iconst (v := nI 1) hx hb dX0_dropEdgePoints_46 (by decide) ?_
            refine lv_goto (tgt := 51) hx hb dX0_dropEdgePoints_47 (by decide) ?_
            refine lv_istore_n (lv' := [(3, .int (nI 1)), (2, .int (nI 1)), (1, .int (nI (2 * i))), (0, .ref h)]) hx hb dX0_dropEdgePoints_51 rfl hl (by decide) rfl (fun ls hl => ?_)
            refine lv_iload_n hx hb dX0_dropEdgePoints_52 rfl (lv_at hl 1 rfl) ?_
            refine lv_if_eq (tgt := 60) hx hb dX0_dropEdgePoints_53 (by decide) (fun c53 => ?_) (fun c53 => ?_)
            · skip
              have c53 : 1 = 0 := (nc_eq (a := 1) (b := 0) (by omega) (by omega)).mp c53
              refine lv_aload_n hx hb dX0_dropEdgePoints_60 rfl (lv_at hl 3 rfl) ?_
              refine lv_iload_n hx hb dX0_dropEdgePoints_61 rfl (lv_at hl 2 rfl) ?_
              refine lv_iconst (v := nI 0) hx hb dX0_dropEdgePoints_62 (by decide) ?_
              refine va_callv (va_runV (As := [.int (nI (2 * i)), .int (nI 0)]) (rest := []) ⟨hx, hb, hml, hown, hts⟩ (conX0_write l D T h a (dropZ f i) (nI (2 * i)) (nI 0) (rfl)) (cwV 2 hts gX0_dropEdgePoints_X0_write rfl rfl rfl (by decide +kernel) ⟨Nat.le_of_ble_eq_true rfl, Nat.le_of_ble_eq_true rfl⟩) (preV hK hh rfl ⟨hh, ha, hne⟩) rfl rfl hl.1 rfl (lv_room (Nat.le_of_ble_eq_true rfl)) dX0_dropEdgePoints_63 ⟨Nat.le_of_ble_eq_true rfl, Nat.le_of_ble_eq_true rfl⟩) hS (fun q _ h9 => (by have h8 : q = a := h9; rw [h8]; exact hA_a)) (fun q h9 => (by have h8 : q = a := h9; rw [h8]; exact hA_a)) (fun u t H1 locs1 ht hvm hw hB hz1 hk1 hS => ?_)
              try dsimp only at hB
              rw [ht] at hB
              replace hh := hh.kept (hk1 _ hh.lt (fun h9 => hne h9))
              have ha := hB
              refine lv_iinc (v := nI ((2 * i) + 2)) (lv' := [(1, .int (nI ((2 * i) + 2))), (3, .int (nI 1)), (2, .int (nI 1)), (0, .ref h)]) hx hb dX0_dropEdgePoints_66 hl (k := 2) rfl (inc_2 _) (by decide) rfl (fun ls hl => ?_)
              refine lv_goto (tgt := 2) hx hb dX0_dropEdgePoints_69 (by decide) ?_
              have e15 : nI ((2 * i) + 2) = nI (2 * (i + 1)) := by (first | rfl | (congr 1; omega))
              have e16 : (eN (T 0) 201 (wrZ (dropZ f i) (nI (2 * i)) (nI 0))) = (eN (T 0) 201 (dropZ f (i + 1))) := by first | (rw [dropZ_s, if_pos (by simp_all)]; done) | (rw [dropZ_s, if_neg (by simp_all)]; done)
              exact hnext _ _ _ ⟨hS, lv_sub (lv_ex hl 0 rfl (congrArg Value.int e15)) [0, 3] rfl, hh, (by rw [← e16]; exact ha)⟩
            · skip
              have c53 : ¬ (1 = 0) := fun q9 => c53 ((nc_eq (a := 1) (b := 0) (by omega) (by omega)).mpr q9)
              refine lv_iload_n hx hb dX0_dropEdgePoints_56 rfl (lv_at hl 0 rfl) ?_
              refine lv_if_ne (tgt := 66) hx hb dX0_dropEdgePoints_57 (by decide) (fun c57 => ?_) (fun c57 => ?_)
              · skip
                have c57 : ¬ (1 = 0) := fun q9 => c57 ((nc_eq (a := 1) (b := 0) (by omega) (by omega)).mpr q9)
                refine lv_iinc (v := nI ((2 * i) + 2)) (lv' := [(1, .int (nI ((2 * i) + 2))), (3, .int (nI 1)), (2, .int (nI 1)), (0, .ref h)]) hx hb dX0_dropEdgePoints_66 hl (k := 2) rfl (inc_2 _) (by decide) rfl (fun ls hl => ?_)
                refine lv_goto (tgt := 2) hx hb dX0_dropEdgePoints_69 (by decide) ?_
                have e17 : nI ((2 * i) + 2) = nI (2 * (i + 1)) := by (first | rfl | (congr 1; omega))
                have e18 : (eN (T 0) 201 (dropZ f i)) = (eN (T 0) 201 (dropZ f (i + 1))) := by first | (rw [dropZ_s, if_pos (by simp_all)]; done) | (rw [dropZ_s, if_neg (by simp_all)]; done)
                exact hnext _ _ _ ⟨hS, lv_sub (lv_ex hl 0 rfl (congrArg Value.int e17)) [0, 3] rfl, hh, (by rw [← e18]; exact ha)⟩
              · skip
                have c57 : 1 = 0 := (nc_eq (a := 1) (b := 0) (by omega) (by omega)).mp c57
                refine lv_aload_n hx hb dX0_dropEdgePoints_60 rfl (lv_at hl 3 rfl) ?_
                refine lv_iload_n hx hb dX0_dropEdgePoints_61 rfl (lv_at hl 2 rfl) ?_
                refine lv_iconst (v := nI 0) hx hb dX0_dropEdgePoints_62 (by decide) ?_
                refine va_callv (va_runV (As := [.int (nI (2 * i)), .int (nI 0)]) (rest := []) ⟨hx, hb, hml, hown, hts⟩ (conX0_write l D T h a (dropZ f i) (nI (2 * i)) (nI 0) (rfl)) (cwV 2 hts gX0_dropEdgePoints_X0_write rfl rfl rfl (by decide +kernel) ⟨Nat.le_of_ble_eq_true rfl, Nat.le_of_ble_eq_true rfl⟩) (preV hK hh rfl ⟨hh, ha, hne⟩) rfl rfl hl.1 rfl (lv_room (Nat.le_of_ble_eq_true rfl)) dX0_dropEdgePoints_63 ⟨Nat.le_of_ble_eq_true rfl, Nat.le_of_ble_eq_true rfl⟩) hS (fun q _ h9 => (by have h8 : q = a := h9; rw [h8]; exact hA_a)) (fun q h9 => (by have h8 : q = a := h9; rw [h8]; exact hA_a)) (fun u t H1 locs1 ht hvm hw hB hz1 hk1 hS => ?_)
                try dsimp only at hB
                rw [ht] at hB
                replace hh := hh.kept (hk1 _ hh.lt (fun h9 => hne h9))
                have ha := hB
                refine lv_iinc (v := nI ((2 * i) + 2)) (lv' := [(1, .int (nI ((2 * i) + 2))), (3, .int (nI 1)), (2, .int (nI 1)), (0, .ref h)]) hx hb dX0_dropEdgePoints_66 hl (k := 2) rfl (inc_2 _) (by decide) rfl (fun ls hl => ?_)
                refine lv_goto (tgt := 2) hx hb dX0_dropEdgePoints_69 (by decide) ?_
                have e19 : nI ((2 * i) + 2) = nI (2 * (i + 1)) := by (first | rfl | (congr 1; omega))
                have e20 : (eN (T 0) 201 (wrZ (dropZ f i) (nI (2 * i)) (nI 0))) = (eN (T 0) 201 (dropZ f (i + 1))) := by first | (rw [dropZ_s, if_pos (by simp_all)]; done) | (rw [dropZ_s, if_neg (by simp_all)]; done)
                exact hnext _ _ _ ⟨hS, lv_sub (lv_ex hl 0 rfl (congrArg Value.int e19)) [0, 3] rfl, hh, (by rw [← e20]; exact ha)⟩
      · skip
        have c10 : ¬ (2 * i = 0) := fun q9 => c10 ((nc_eq (a := 2 * i) (b := 0) (by omega) (by omega)).mpr q9)
        refine lv_aload_n hx hb dX0_dropEdgePoints_13 rfl (lv_at hl 1 rfl) ?_
        refine lv_iload_n hx hb dX0_dropEdgePoints_14 rfl (lv_at hl 0 rfl) ?_
        refine lv_iconst (v := nI 1) hx hb dX0_dropEdgePoints_15 (by decide) ?_
        refine lv_isub hx hb dX0_dropEdgePoints_16 ?_
        refine vp_callSi (va_runV (As := [.int ((nI (2 * i)) - (nI 1))]) (rest := []) ⟨hx, hb, hml, hown, hts⟩ (conX0_holds l D T h a (dropZ f i) ((nI (2 * i)) - (nI 1))) (cwV 1 hts gX0_dropEdgePoints_X0_holds rfl rfl rfl (by decide +kernel) ⟨Nat.le_of_ble_eq_true rfl, Nat.le_of_ble_eq_true rfl⟩) (preV hK hh rfl ⟨hh, ha, hne⟩) rfl rfl hl.1 rfl (lv_room (Nat.le_of_ble_eq_true rfl)) dX0_dropEdgePoints_17 ⟨Nat.le_of_ble_eq_true rfl, Nat.le_of_ble_eq_true rfl⟩).run (fun r21 hr21 => ?_)
        subst hr21
        refine lv_if_eq (tgt := 27) hx hb dX0_dropEdgePoints_20 (by decide) (fun c20 => ?_) (fun c20 => ?_)
        · skip
          refine lv_iconst (v := nI 0) hx hb dX0_dropEdgePoints_27 (by decide) ?_
          refine lv_istore_n (lv' := [(2, .int (nI 0)), (1, .int (nI (2 * i))), (0, .ref h)]) hx hb dX0_dropEdgePoints_28 rfl hl (by decide) rfl (fun ls hl => ?_)
          refine lv_iload_n hx hb dX0_dropEdgePoints_29 rfl (lv_at hl 1 rfl) ?_
          refine lv_sipush (v := nI 200) hx hb dX0_dropEdgePoints_30 (by decide) ?_
          refine lv_icmp_eq (tgt := 46) hx hb dX0_dropEdgePoints_33 (by decide) (fun c33 => ?_) (fun c33 => ?_)
          · skip
            have c33 : 2 * i = 200 := (nc_eq (a := 2 * i) (b := 200) (by omega) (by omega)).mp c33
            refine lv_iconst (v := nI 1) hx hb dX0_dropEdgePoints_46 (by decide) ?_
            refine lv_goto (tgt := 51) hx hb dX0_dropEdgePoints_47 (by decide) ?_
            refine lv_istore_n (lv' := [(3, .int (nI 1)), (2, .int (nI 0)), (1, .int (nI (2 * i))), (0, .ref h)]) hx hb dX0_dropEdgePoints_51 rfl hl (by decide) rfl (fun ls hl => ?_)
            refine lv_iload_n hx hb dX0_dropEdgePoints_52 rfl (lv_at hl 1 rfl) ?_
            refine lv_if_eq (tgt := 60) hx hb dX0_dropEdgePoints_53 (by decide) (fun c53 => ?_) (fun c53 => ?_)
            · skip
              have c53 : 0 = 0 := (nc_eq (a := 0) (b := 0) (by omega) (by omega)).mp c53
              refine lv_aload_n hx hb dX0_dropEdgePoints_60 rfl (lv_at hl 3 rfl) ?_
              refine lv_iload_n hx hb dX0_dropEdgePoints_61 rfl (lv_at hl 2 rfl) ?_
              refine lv_iconst (v := nI 0) hx hb dX0_dropEdgePoints_62 (by decide) ?_
              refine va_callv (va_runV (As := [.int (nI (2 * i)), .int (nI 0)]) (rest := []) ⟨hx, hb, hml, hown, hts⟩ (conX0_write l D T h a (dropZ f i) (nI (2 * i)) (nI 0) (rfl)) (cwV 2 hts gX0_dropEdgePoints_X0_write rfl rfl rfl (by decide +kernel) ⟨Nat.le_of_ble_eq_true rfl, Nat.le_of_ble_eq_true rfl⟩) (preV hK hh rfl ⟨hh, ha, hne⟩) rfl rfl hl.1 rfl (lv_room (Nat.le_of_ble_eq_true rfl)) dX0_dropEdgePoints_63 ⟨Nat.le_of_ble_eq_true rfl, Nat.le_of_ble_eq_true rfl⟩) hS (fun q _ h9 => (by have h8 : q = a := h9; rw [h8]; exact hA_a)) (fun q h9 => (by have h8 : q = a := h9; rw [h8]; exact hA_a)) (fun u t H1 locs1 ht hvm hw hB hz1 hk1 hS => ?_)
              try dsimp only at hB
              rw [ht] at hB
              replace hh := hh.kept (hk1 _ hh.lt (fun h9 => hne h9))
              have ha := hB
              refine lv_iinc (v := nI ((2 * i) + 2)) (lv' := [(1, .int (nI ((2 * i) + 2))), (3, .int (nI 1)), (2, .int (nI 0)), (0, .ref h)]) hx hb dX0_dropEdgePoints_66 hl (k := 2) rfl (inc_2 _) (by decide) rfl (fun ls hl => ?_)
              refine lv_goto (tgt := 2) hx hb dX0_dropEdgePoints_69 (by decide) ?_
              have e22 : nI ((2 * i) + 2) = nI (2 * (i + 1)) := by (first | rfl | (congr 1; omega))
              have e23 : (eN (T 0) 201 (wrZ (dropZ f i) (nI (2 * i)) (nI 0))) = (eN (T 0) 201 (dropZ f (i + 1))) := by first | (rw [dropZ_s, if_pos (by simp_all)]; done) | (rw [dropZ_s, if_neg (by simp_all)]; done)
              exact hnext _ _ _ ⟨hS, lv_sub (lv_ex hl 0 rfl (congrArg Value.int e22)) [0, 3] rfl, hh, (by rw [← e23]; exact ha)⟩
            · skip
              have c53 : ¬ (0 = 0) := fun q9 => c53 ((nc_eq (a := 0) (b := 0) (by omega) (by omega)).mpr q9)
              refine lv_iload_n hx hb dX0_dropEdgePoints_56 rfl (lv_at hl 0 rfl) ?_
              refine lv_if_ne (tgt := 66) hx hb dX0_dropEdgePoints_57 (by decide) (fun c57 => ?_) (fun c57 => ?_)
              · skip
                have c57 : ¬ (1 = 0) := fun q9 => c57 ((nc_eq (a := 1) (b := 0) (by omega) (by omega)).mpr q9)
                refine lv_iinc (v := nI ((2 * i) + 2)) (lv' := [(1, .int (nI ((2 * i) + 2))), (3, .int (nI 1)), (2, .int (nI 0)), (0, .ref h)]) hx hb dX0_dropEdgePoints_66 hl (k := 2) rfl (inc_2 _) (by decide) rfl (fun ls hl => ?_)
                refine lv_goto (tgt := 2) hx hb dX0_dropEdgePoints_69 (by decide) ?_
                have e24 : nI ((2 * i) + 2) = nI (2 * (i + 1)) := by (first | rfl | (congr 1; omega))
                have e25 : (eN (T 0) 201 (dropZ f i)) = (eN (T 0) 201 (dropZ f (i + 1))) := by first | (rw [dropZ_s, if_pos (by simp_all)]; done) | (rw [dropZ_s, if_neg (by simp_all)]; done)
                exact hnext _ _ _ ⟨hS, lv_sub (lv_ex hl 0 rfl (congrArg Value.int e24)) [0, 3] rfl, hh, (by rw [← e25]; exact ha)⟩
              · skip
                have c57 : 1 = 0 := (nc_eq (a := 1) (b := 0) (by omega) (by omega)).mp c57
                refine lv_aload_n hx hb dX0_dropEdgePoints_60 rfl (lv_at hl 3 rfl) ?_
                refine lv_iload_n hx hb dX0_dropEdgePoints_61 rfl (lv_at hl 2 rfl) ?_
                refine lv_iconst (v := nI 0) hx hb dX0_dropEdgePoints_62 (by decide) ?_
                refine va_callv (va_runV (As := [.int (nI (2 * i)), .int (nI 0)]) (rest := []) ⟨hx, hb, hml, hown, hts⟩ (conX0_write l D T h a (dropZ f i) (nI (2 * i)) (nI 0) (rfl)) (cwV 2 hts gX0_dropEdgePoints_X0_write rfl rfl rfl (by decide +kernel) ⟨Nat.le_of_ble_eq_true rfl, Nat.le_of_ble_eq_true rfl⟩) (preV hK hh rfl ⟨hh, ha, hne⟩) rfl rfl hl.1 rfl (lv_room (Nat.le_of_ble_eq_true rfl)) dX0_dropEdgePoints_63 ⟨Nat.le_of_ble_eq_true rfl, Nat.le_of_ble_eq_true rfl⟩) hS (fun q _ h9 => (by have h8 : q = a := h9; rw [h8]; exact hA_a)) (fun q h9 => (by have h8 : q = a := h9; rw [h8]; exact hA_a)) (fun u t H1 locs1 ht hvm hw hB hz1 hk1 hS => ?_)
                try dsimp only at hB
                rw [ht] at hB
                replace hh := hh.kept (hk1 _ hh.lt (fun h9 => hne h9))
                have ha := hB
                refine lv_iinc (v := nI ((2 * i) + 2)) (lv' := [(1, .int (nI ((2 * i) + 2))), (3, .int (nI 1)), (2, .int (nI 0)), (0, .ref h)]) hx hb dX0_dropEdgePoints_66 hl (k := 2) rfl (inc_2 _) (by decide) rfl (fun ls hl => ?_)
                refine lv_goto (tgt := 2) hx hb dX0_dropEdgePoints_69 (by decide) ?_
                have e26 : nI ((2 * i) + 2) = nI (2 * (i + 1)) := by (first | rfl | (congr 1; omega))
                have e27 : (eN (T 0) 201 (wrZ (dropZ f i) (nI (2 * i)) (nI 0))) = (eN (T 0) 201 (dropZ f (i + 1))) := by first | (rw [dropZ_s, if_pos (by simp_all)]; done) | (rw [dropZ_s, if_neg (by simp_all)]; done)
                exact hnext _ _ _ ⟨hS, lv_sub (lv_ex hl 0 rfl (congrArg Value.int e26)) [0, 3] rfl, hh, (by rw [← e27]; exact ha)⟩
          · skip
            have c33 : ¬ (2 * i = 200) := fun q9 => c33 ((nc_eq (a := 2 * i) (b := 200) (by omega) (by omega)).mpr q9)
            refine lv_aload_n hx hb dX0_dropEdgePoints_36 rfl (lv_at hl 2 rfl) ?_
            refine lv_iload_n hx hb dX0_dropEdgePoints_37 rfl (lv_at hl 1 rfl) ?_
            refine lv_iconst (v := nI 1) hx hb dX0_dropEdgePoints_38 (by decide) ?_
            refine lv_iadd hx hb dX0_dropEdgePoints_39 ?_
            rw [nI_add]
            refine vp_callSi (va_runV (As := [.int (nI ((2 * i) + 1))]) (rest := []) ⟨hx, hb, hml, hown, hts⟩ (conX0_holds l D T h a (dropZ f i) (nI ((2 * i) + 1))) (cwV 1 hts gX0_dropEdgePoints_X0_holds rfl rfl rfl (by decide +kernel) ⟨Nat.le_of_ble_eq_true rfl, Nat.le_of_ble_eq_true rfl⟩) (preV hK hh rfl ⟨hh, ha, hne⟩) rfl rfl hl.1 rfl (lv_room (Nat.le_of_ble_eq_true rfl)) dX0_dropEdgePoints_40 ⟨Nat.le_of_ble_eq_true rfl, Nat.le_of_ble_eq_true rfl⟩).run (fun r28 hr28 => ?_)
            subst hr28
            refine lv_if_eq (tgt := 50) hx hb dX0_dropEdgePoints_43 (by decide) (fun c43 => ?_) (fun c43 => ?_)
            · skip
              refine lv_iconst (v := nI 0) hx hb dX0_dropEdgePoints_50 (by decide) ?_
              refine lv_istore_n (lv' := [(3, .int (nI 0)), (2, .int (nI 0)), (1, .int (nI (2 * i))), (0, .ref h)]) hx hb dX0_dropEdgePoints_51 rfl hl (by decide) rfl (fun ls hl => ?_)
              refine lv_iload_n hx hb dX0_dropEdgePoints_52 rfl (lv_at hl 1 rfl) ?_
              refine lv_if_eq (tgt := 60) hx hb dX0_dropEdgePoints_53 (by decide) (fun c53 => ?_) (fun c53 => ?_)
              · skip
                have c53 : 0 = 0 := (nc_eq (a := 0) (b := 0) (by omega) (by omega)).mp c53
                refine lv_aload_n hx hb dX0_dropEdgePoints_60 rfl (lv_at hl 3 rfl) ?_
                refine lv_iload_n hx hb dX0_dropEdgePoints_61 rfl (lv_at hl 2 rfl) ?_
                refine lv_iconst (v := nI 0) hx hb dX0_dropEdgePoints_62 (by decide) ?_
                refine va_callv (va_runV (As := [.int (nI (2 * i)), .int (nI 0)]) (rest := []) ⟨hx, hb, hml, hown, hts⟩ (conX0_write l D T h a (dropZ f i) (nI (2 * i)) (nI 0) (rfl)) (cwV 2 hts gX0_dropEdgePoints_X0_write rfl rfl rfl (by decide +kernel) ⟨Nat.le_of_ble_eq_true rfl, Nat.le_of_ble_eq_true rfl⟩) (preV hK hh rfl ⟨hh, ha, hne⟩) rfl rfl hl.1 rfl (lv_room (Nat.le_of_ble_eq_true rfl)) dX0_dropEdgePoints_63 ⟨Nat.le_of_ble_eq_true rfl, Nat.le_of_ble_eq_true rfl⟩) hS (fun q _ h9 => (by have h8 : q = a := h9; rw [h8]; exact hA_a)) (fun q h9 => (by have h8 : q = a := h9; rw [h8]; exact hA_a)) (fun u t H1 locs1 ht hvm hw hB hz1 hk1 hS => ?_)
                try dsimp only at hB
                rw [ht] at hB
                replace hh := hh.kept (hk1 _ hh.lt (fun h9 => hne h9))
                have ha := hB
                refine lv_iinc (v := nI ((2 * i) + 2)) (lv' := [(1, .int (nI ((2 * i) + 2))), (3, .int (nI 0)), (2, .int (nI 0)), (0, .ref h)]) hx hb dX0_dropEdgePoints_66 hl (k := 2) rfl (inc_2 _) (by decide) rfl (fun ls hl => ?_)
                refine lv_goto (tgt := 2) hx hb dX0_dropEdgePoints_69 (by decide) ?_
                have e29 : nI ((2 * i) + 2) = nI (2 * (i + 1)) := by (first | rfl | (congr 1; omega))
                have e30 : (eN (T 0) 201 (wrZ (dropZ f i) (nI (2 * i)) (nI 0))) = (eN (T 0) 201 (dropZ f (i + 1))) := by first | (rw [dropZ_s, if_pos (by simp_all)]; done) | (rw [dropZ_s, if_neg (by simp_all)]; done)
                exact hnext _ _ _ ⟨hS, lv_sub (lv_ex hl 0 rfl (congrArg Value.int e29)) [0, 3] rfl, hh, (by rw [← e30]; exact ha)⟩
              · skip
                have c53 : ¬ (0 = 0) := fun q9 => c53 ((nc_eq (a := 0) (b := 0) (by omega) (by omega)).mpr q9)
                refine lv_iload_n hx hb dX0_dropEdgePoints_56 rfl (lv_at hl 0 rfl) ?_
                refine lv_if_ne (tgt := 66) hx hb dX0_dropEdgePoints_57 (by decide) (fun c57 => ?_) (fun c57 => ?_)
                · skip
                  have c57 : ¬ (0 = 0) := fun q9 => c57 ((nc_eq (a := 0) (b := 0) (by omega) (by omega)).mpr q9)
                  refine lv_iinc (v := nI ((2 * i) + 2)) (lv' := [(1, .int (nI ((2 * i) + 2))), (3, .int (nI 0)), (2, .int (nI 0)), (0, .ref h)]) hx hb dX0_dropEdgePoints_66 hl (k := 2) rfl (inc_2 _) (by decide) rfl (fun ls hl => ?_)
                  refine lv_goto (tgt := 2) hx hb dX0_dropEdgePoints_69 (by decide) ?_
                  have e31 : nI ((2 * i) + 2) = nI (2 * (i + 1)) := by (first | rfl | (congr 1; omega))
                  have e32 : (eN (T 0) 201 (dropZ f i)) = (eN (T 0) 201 (dropZ f (i + 1))) := by first | (rw [dropZ_s, if_pos (by simp_all)]; done) | (rw [dropZ_s, if_neg (by simp_all)]; done)
                  exact hnext _ _ _ ⟨hS, lv_sub (lv_ex hl 0 rfl (congrArg Value.int e31)) [0, 3] rfl, hh, (by rw [← e32]; exact ha)⟩
                · skip
                  have c57 : 0 = 0 := (nc_eq (a := 0) (b := 0) (by omega) (by omega)).mp c57
                  refine lv_aload_n hx hb dX0_dropEdgePoints_60 rfl (lv_at hl 3 rfl) ?_
                  refine lv_iload_n hx hb dX0_dropEdgePoints_61 rfl (lv_at hl 2 rfl) ?_
                  refine lv_iconst (v := nI 0) hx hb dX0_dropEdgePoints_62 (by decide) ?_
                  refine va_callv (va_runV (As := [.int (nI (2 * i)), .int (nI 0)]) (rest := []) ⟨hx, hb, hml, hown, hts⟩ (conX0_write l D T h a (dropZ f i) (nI (2 * i)) (nI 0) (rfl)) (cwV 2 hts gX0_dropEdgePoints_X0_write rfl rfl rfl (by decide +kernel) ⟨Nat.le_of_ble_eq_true rfl, Nat.le_of_ble_eq_true rfl⟩) (preV hK hh rfl ⟨hh, ha, hne⟩) rfl rfl hl.1 rfl (lv_room (Nat.le_of_ble_eq_true rfl)) dX0_dropEdgePoints_63 ⟨Nat.le_of_ble_eq_true rfl, Nat.le_of_ble_eq_true rfl⟩) hS (fun q _ h9 => (by have h8 : q = a := h9; rw [h8]; exact hA_a)) (fun q h9 => (by have h8 : q = a := h9; rw [h8]; exact hA_a)) (fun u t H1 locs1 ht hvm hw hB hz1 hk1 hS => ?_)
                  try dsimp only at hB
                  rw [ht] at hB
                  replace hh := hh.kept (hk1 _ hh.lt (fun h9 => hne h9))
                  have ha := hB
                  refine lv_iinc (v := nI ((2 * i) + 2)) (lv' := [(1, .int (nI ((2 * i) + 2))), (3, .int (nI 0)), (2, .int (nI 0)), (0, .ref h)]) hx hb dX0_dropEdgePoints_66 hl (k := 2) rfl (inc_2 _) (by decide) rfl (fun ls hl => ?_)
                  refine lv_goto (tgt := 2) hx hb dX0_dropEdgePoints_69 (by decide) ?_
                  have e33 : nI ((2 * i) + 2) = nI (2 * (i + 1)) := by (first | rfl | (congr 1; omega))
                  have e34 : (eN (T 0) 201 (wrZ (dropZ f i) (nI (2 * i)) (nI 0))) = (eN (T 0) 201 (dropZ f (i + 1))) := by first | (rw [dropZ_s, if_pos (by simp_all)]; done) | (rw [dropZ_s, if_neg (by simp_all)]; done)
                  exact hnext _ _ _ ⟨hS, lv_sub (lv_ex hl 0 rfl (congrArg Value.int e33)) [0, 3] rfl, hh, (by rw [← e34]; exact ha)⟩
            · skip
              refine lv_iconst (v := nI 1) hx hb dX0_dropEdgePoints_46 (by decide) ?_
              refine lv_goto (tgt := 51) hx hb dX0_dropEdgePoints_47 (by decide) ?_
              refine lv_istore_n (lv' := [(3, .int (nI 1)), (2, .int (nI 0)), (1, .int (nI (2 * i))), (0, .ref h)]) hx hb dX0_dropEdgePoints_51 rfl hl (by decide) rfl (fun ls hl => ?_)
              refine lv_iload_n hx hb dX0_dropEdgePoints_52 rfl (lv_at hl 1 rfl) ?_
              refine lv_if_eq (tgt := 60) hx hb dX0_dropEdgePoints_53 (by decide) (fun c53 => ?_) (fun c53 => ?_)
              · skip
                have c53 : 0 = 0 := (nc_eq (a := 0) (b := 0) (by omega) (by omega)).mp c53
                refine lv_aload_n hx hb dX0_dropEdgePoints_60 rfl (lv_at hl 3 rfl) ?_
                refine lv_iload_n hx hb dX0_dropEdgePoints_61 rfl (lv_at hl 2 rfl) ?_
                refine lv_iconst (v := nI 0) hx hb dX0_dropEdgePoints_62 (by decide) ?_
                refine va_callv (va_runV (As := [.int (nI (2 * i)), .int (nI 0)]) (rest := []) ⟨hx, hb, hml, hown, hts⟩ (conX0_write l D T h a (dropZ f i) (nI (2 * i)) (nI 0) (rfl)) (cwV 2 hts gX0_dropEdgePoints_X0_write rfl rfl rfl (by decide +kernel) ⟨Nat.le_of_ble_eq_true rfl, Nat.le_of_ble_eq_true rfl⟩) (preV hK hh rfl ⟨hh, ha, hne⟩) rfl rfl hl.1 rfl (lv_room (Nat.le_of_ble_eq_true rfl)) dX0_dropEdgePoints_63 ⟨Nat.le_of_ble_eq_true rfl, Nat.le_of_ble_eq_true rfl⟩) hS (fun q _ h9 => (by have h8 : q = a := h9; rw [h8]; exact hA_a)) (fun q h9 => (by have h8 : q = a := h9; rw [h8]; exact hA_a)) (fun u t H1 locs1 ht hvm hw hB hz1 hk1 hS => ?_)
                try dsimp only at hB
                rw [ht] at hB
                replace hh := hh.kept (hk1 _ hh.lt (fun h9 => hne h9))
                have ha := hB
                refine lv_iinc (v := nI ((2 * i) + 2)) (lv' := [(1, .int (nI ((2 * i) + 2))), (3, .int (nI 1)), (2, .int (nI 0)), (0, .ref h)]) hx hb dX0_dropEdgePoints_66 hl (k := 2) rfl (inc_2 _) (by decide) rfl (fun ls hl => ?_)
                refine lv_goto (tgt := 2) hx hb dX0_dropEdgePoints_69 (by decide) ?_
                have e35 : nI ((2 * i) + 2) = nI (2 * (i + 1)) := by (first | rfl | (congr 1; omega))
                have e36 : (eN (T 0) 201 (wrZ (dropZ f i) (nI (2 * i)) (nI 0))) = (eN (T 0) 201 (dropZ f (i + 1))) := by first | (rw [dropZ_s, if_pos (by simp_all)]; done) | (rw [dropZ_s, if_neg (by simp_all)]; done)
                exact hnext _ _ _ ⟨hS, lv_sub (lv_ex hl 0 rfl (congrArg Value.int e35)) [0, 3] rfl, hh, (by rw [← e36]; exact ha)⟩
              · skip
                have c53 : ¬ (0 = 0) := fun q9 => c53 ((nc_eq (a := 0) (b := 0) (by omega) (by omega)).mpr q9)
                refine lv_iload_n hx hb dX0_dropEdgePoints_56 rfl (lv_at hl 0 rfl) ?_
                refine lv_if_ne (tgt := 66) hx hb dX0_dropEdgePoints_57 (by decide) (fun c57 => ?_) (fun c57 => ?_)
                · skip
                  have c57 : ¬ (1 = 0) := fun q9 => c57 ((nc_eq (a := 1) (b := 0) (by omega) (by omega)).mpr q9)
                  refine lv_iinc (v := nI ((2 * i) + 2)) (lv' := [(1, .int (nI ((2 * i) + 2))), (3, .int (nI 1)), (2, .int (nI 0)), (0, .ref h)]) hx hb dX0_dropEdgePoints_66 hl (k := 2) rfl (inc_2 _) (by decide) rfl (fun ls hl => ?_)
                  refine lv_goto (tgt := 2) hx hb dX0_dropEdgePoints_69 (by decide) ?_
                  have e37 : nI ((2 * i) + 2) = nI (2 * (i + 1)) := by (first | rfl | (congr 1; omega))
                  have e38 : (eN (T 0) 201 (dropZ f i)) = (eN (T 0) 201 (dropZ f (i + 1))) := by first | (rw [dropZ_s, if_pos (by simp_all)]; done) | (rw [dropZ_s, if_neg (by simp_all)]; done)
                  exact hnext _ _ _ ⟨hS, lv_sub (lv_ex hl 0 rfl (congrArg Value.int e37)) [0, 3] rfl, hh, (by rw [← e38]; exact ha)⟩
                · skip
                  have c57 : 1 = 0 := (nc_eq (a := 1) (b := 0) (by omega) (by omega)).mp c57
                  refine lv_aload_n hx hb dX0_dropEdgePoints_60 rfl (lv_at hl 3 rfl) ?_
                  refine lv_iload_n hx hb dX0_dropEdgePoints_61 rfl (lv_at hl 2 rfl) ?_
                  refine lv_iconst (v := nI 0) hx hb dX0_dropEdgePoints_62 (by decide) ?_
                  refine va_callv (va_runV (As := [.int (nI (2 * i)), .int (nI 0)]) (rest := []) ⟨hx, hb, hml, hown, hts⟩ (conX0_write l D T h a (dropZ f i) (nI (2 * i)) (nI 0) (rfl)) (cwV 2 hts gX0_dropEdgePoints_X0_write rfl rfl rfl (by decide +kernel) ⟨Nat.le_of_ble_eq_true rfl, Nat.le_of_ble_eq_true rfl⟩) (preV hK hh rfl ⟨hh, ha, hne⟩) rfl rfl hl.1 rfl (lv_room (Nat.le_of_ble_eq_true rfl)) dX0_dropEdgePoints_63 ⟨Nat.le_of_ble_eq_true rfl, Nat.le_of_ble_eq_true rfl⟩) hS (fun q _ h9 => (by have h8 : q = a := h9; rw [h8]; exact hA_a)) (fun q h9 => (by have h8 : q = a := h9; rw [h8]; exact hA_a)) (fun u t H1 locs1 ht hvm hw hB hz1 hk1 hS => ?_)
                  try dsimp only at hB
                  rw [ht] at hB
                  replace hh := hh.kept (hk1 _ hh.lt (fun h9 => hne h9))
                  have ha := hB
                  refine lv_iinc (v := nI ((2 * i) + 2)) (lv' := [(1, .int (nI ((2 * i) + 2))), (3, .int (nI 1)), (2, .int (nI 0)), (0, .ref h)]) hx hb dX0_dropEdgePoints_66 hl (k := 2) rfl (inc_2 _) (by decide) rfl (fun ls hl => ?_)
                  refine lv_goto (tgt := 2) hx hb dX0_dropEdgePoints_69 (by decide) ?_
                  have e39 : nI ((2 * i) + 2) = nI (2 * (i + 1)) := by (first | rfl | (congr 1; omega))
                  have e40 : (eN (T 0) 201 (wrZ (dropZ f i) (nI (2 * i)) (nI 0))) = (eN (T 0) 201 (dropZ f (i + 1))) := by first | (rw [dropZ_s, if_pos (by simp_all)]; done) | (rw [dropZ_s, if_neg (by simp_all)]; done)
                  exact hnext _ _ _ ⟨hS, lv_sub (lv_ex hl 0 rfl (congrArg Value.int e39)) [0, 3] rfl, hh, (by rw [← e40]; exact ha)⟩
        · skip
          refine lv_iconst (v := nI 1) hx hb dX0_dropEdgePoints_23 (by decide) ?_
          refine lv_goto (tgt := 28) hx hb dX0_dropEdgePoints_24 (by decide) ?_
          refine lv_istore_n (lv' := [(2, .int (nI 1)), (1, .int (nI (2 * i))), (0, .ref h)]) hx hb dX0_dropEdgePoints_28 rfl hl (by decide) rfl (fun ls hl => ?_)
          refine lv_iload_n hx hb dX0_dropEdgePoints_29 rfl (lv_at hl 1 rfl) ?_
          refine lv_sipush (v := nI 200) hx hb dX0_dropEdgePoints_30 (by decide) ?_
          refine lv_icmp_eq (tgt := 46) hx hb dX0_dropEdgePoints_33 (by decide) (fun c33 => ?_) (fun c33 => ?_)
          · skip
            have c33 : 2 * i = 200 := (nc_eq (a := 2 * i) (b := 200) (by omega) (by omega)).mp c33
            refine lv_iconst (v := nI 1) hx hb dX0_dropEdgePoints_46 (by decide) ?_
            refine lv_goto (tgt := 51) hx hb dX0_dropEdgePoints_47 (by decide) ?_
            refine lv_istore_n (lv' := [(3, .int (nI 1)), (2, .int (nI 1)), (1, .int (nI (2 * i))), (0, .ref h)]) hx hb dX0_dropEdgePoints_51 rfl hl (by decide) rfl (fun ls hl => ?_)
            refine lv_iload_n hx hb dX0_dropEdgePoints_52 rfl (lv_at hl 1 rfl) ?_
            refine lv_if_eq (tgt := 60) hx hb dX0_dropEdgePoints_53 (by decide) (fun c53 => ?_) (fun c53 => ?_)
            · skip
              have c53 : 1 = 0 := (nc_eq (a := 1) (b := 0) (by omega) (by omega)).mp c53
              refine lv_aload_n hx hb dX0_dropEdgePoints_60 rfl (lv_at hl 3 rfl) ?_
              refine lv_iload_n hx hb dX0_dropEdgePoints_61 rfl (lv_at hl 2 rfl) ?_
              refine lv_iconst (v := nI 0) hx hb dX0_dropEdgePoints_62 (by decide) ?_
              refine va_callv (va_runV (As := [.int (nI (2 * i)), .int (nI 0)]) (rest := []) ⟨hx, hb, hml, hown, hts⟩ (conX0_write l D T h a (dropZ f i) (nI (2 * i)) (nI 0) (rfl)) (cwV 2 hts gX0_dropEdgePoints_X0_write rfl rfl rfl (by decide +kernel) ⟨Nat.le_of_ble_eq_true rfl, Nat.le_of_ble_eq_true rfl⟩) (preV hK hh rfl ⟨hh, ha, hne⟩) rfl rfl hl.1 rfl (lv_room (Nat.le_of_ble_eq_true rfl)) dX0_dropEdgePoints_63 ⟨Nat.le_of_ble_eq_true rfl, Nat.le_of_ble_eq_true rfl⟩) hS (fun q _ h9 => (by have h8 : q = a := h9; rw [h8]; exact hA_a)) (fun q h9 => (by have h8 : q = a := h9; rw [h8]; exact hA_a)) (fun u t H1 locs1 ht hvm hw hB hz1 hk1 hS => ?_)
              try dsimp only at hB
              rw [ht] at hB
              replace hh := hh.kept (hk1 _ hh.lt (fun h9 => hne h9))
              have ha := hB
              refine lv_iinc (v := nI ((2 * i) + 2)) (lv' := [(1, .int (nI ((2 * i) + 2))), (3, .int (nI 1)), (2, .int (nI 1)), (0, .ref h)]) hx hb dX0_dropEdgePoints_66 hl (k := 2) rfl (inc_2 _) (by decide) rfl (fun ls hl => ?_)
              refine lv_goto (tgt := 2) hx hb dX0_dropEdgePoints_69 (by decide) ?_
              have e41 : nI ((2 * i) + 2) = nI (2 * (i + 1)) := by (first | rfl | (congr 1; omega))
              have e42 : (eN (T 0) 201 (wrZ (dropZ f i) (nI (2 * i)) (nI 0))) = (eN (T 0) 201 (dropZ f (i + 1))) := by first | (rw [dropZ_s, if_pos (by simp_all)]; done) | (rw [dropZ_s, if_neg (by simp_all)]; done)
              exact hnext _ _ _ ⟨hS, lv_sub (lv_ex hl 0 rfl (congrArg Value.int e41)) [0, 3] rfl, hh, (by rw [← e42]; exact ha)⟩
            · skip
              have c53 : ¬ (1 = 0) := fun q9 => c53 ((nc_eq (a := 1) (b := 0) (by omega) (by omega)).mpr q9)
              refine lv_iload_n hx hb dX0_dropEdgePoints_56 rfl (lv_at hl 0 rfl) ?_
              refine lv_if_ne (tgt := 66) hx hb dX0_dropEdgePoints_57 (by decide) (fun c57 => ?_) (fun c57 => ?_)
              · skip
                have c57 : ¬ (1 = 0) := fun q9 => c57 ((nc_eq (a := 1) (b := 0) (by omega) (by omega)).mpr q9)
                refine lv_iinc (v := nI ((2 * i) + 2)) (lv' := [(1, .int (nI ((2 * i) + 2))), (3, .int (nI 1)), (2, .int (nI 1)), (0, .ref h)]) hx hb dX0_dropEdgePoints_66 hl (k := 2) rfl (inc_2 _) (by decide) rfl (fun ls hl => ?_)
                refine lv_goto (tgt := 2) hx hb dX0_dropEdgePoints_69 (by decide) ?_
                have e43 : nI ((2 * i) + 2) = nI (2 * (i + 1)) := by (first | rfl | (congr 1; omega))
                have e44 : (eN (T 0) 201 (dropZ f i)) = (eN (T 0) 201 (dropZ f (i + 1))) := by first | (rw [dropZ_s, if_pos (by simp_all)]; done) | (rw [dropZ_s, if_neg (by simp_all)]; done)
                exact hnext _ _ _ ⟨hS, lv_sub (lv_ex hl 0 rfl (congrArg Value.int e43)) [0, 3] rfl, hh, (by rw [← e44]; exact ha)⟩
              · skip
                have c57 : 1 = 0 := (nc_eq (a := 1) (b := 0) (by omega) (by omega)).mp c57
                refine lv_aload_n hx hb dX0_dropEdgePoints_60 rfl (lv_at hl 3 rfl) ?_
                refine lv_iload_n hx hb dX0_dropEdgePoints_61 rfl (lv_at hl 2 rfl) ?_
                refine lv_iconst (v := nI 0) hx hb dX0_dropEdgePoints_62 (by decide) ?_
                refine va_callv (va_runV (As := [.int (nI (2 * i)), .int (nI 0)]) (rest := []) ⟨hx, hb, hml, hown, hts⟩ (conX0_write l D T h a (dropZ f i) (nI (2 * i)) (nI 0) (rfl)) (cwV 2 hts gX0_dropEdgePoints_X0_write rfl rfl rfl (by decide +kernel) ⟨Nat.le_of_ble_eq_true rfl, Nat.le_of_ble_eq_true rfl⟩) (preV hK hh rfl ⟨hh, ha, hne⟩) rfl rfl hl.1 rfl (lv_room (Nat.le_of_ble_eq_true rfl)) dX0_dropEdgePoints_63 ⟨Nat.le_of_ble_eq_true rfl, Nat.le_of_ble_eq_true rfl⟩) hS (fun q _ h9 => (by have h8 : q = a := h9; rw [h8]; exact hA_a)) (fun q h9 => (by have h8 : q = a := h9; rw [h8]; exact hA_a)) (fun u t H1 locs1 ht hvm hw hB hz1 hk1 hS => ?_)
                try dsimp only at hB
                rw [ht] at hB
                replace hh := hh.kept (hk1 _ hh.lt (fun h9 => hne h9))
                have ha := hB
                refine lv_iinc (v := nI ((2 * i) + 2)) (lv' := [(1, .int (nI ((2 * i) + 2))), (3, .int (nI 1)), (2, .int (nI 1)), (0, .ref h)]) hx hb dX0_dropEdgePoints_66 hl (k := 2) rfl (inc_2 _) (by decide) rfl (fun ls hl => ?_)
                refine lv_goto (tgt := 2) hx hb dX0_dropEdgePoints_69 (by decide) ?_
                have e45 : nI ((2 * i) + 2) = nI (2 * (i + 1)) := by (first | rfl | (congr 1; omega))
                have e46 : (eN (T 0) 201 (wrZ (dropZ f i) (nI (2 * i)) (nI 0))) = (eN (T 0) 201 (dropZ f (i + 1))) := by first | (rw [dropZ_s, if_pos (by simp_all)]; done) | (rw [dropZ_s, if_neg (by simp_all)]; done)
                exact hnext _ _ _ ⟨hS, lv_sub (lv_ex hl 0 rfl (congrArg Value.int e45)) [0, 3] rfl, hh, (by rw [← e46]; exact ha)⟩
          · skip
            have c33 : ¬ (2 * i = 200) := fun q9 => c33 ((nc_eq (a := 2 * i) (b := 200) (by omega) (by omega)).mpr q9)
            refine lv_aload_n hx hb dX0_dropEdgePoints_36 rfl (lv_at hl 2 rfl) ?_
            refine lv_iload_n hx hb dX0_dropEdgePoints_37 rfl (lv_at hl 1 rfl) ?_
            refine lv_iconst (v := nI 1) hx hb dX0_dropEdgePoints_38 (by decide) ?_
            refine lv_iadd hx hb dX0_dropEdgePoints_39 ?_
            rw [nI_add]
            refine vp_callSi (va_runV (As := [.int (nI ((2 * i) + 1))]) (rest := []) ⟨hx, hb, hml, hown, hts⟩ (conX0_holds l D T h a (dropZ f i) (nI ((2 * i) + 1))) (cwV 1 hts gX0_dropEdgePoints_X0_holds rfl rfl rfl (by decide +kernel) ⟨Nat.le_of_ble_eq_true rfl, Nat.le_of_ble_eq_true rfl⟩) (preV hK hh rfl ⟨hh, ha, hne⟩) rfl rfl hl.1 rfl (lv_room (Nat.le_of_ble_eq_true rfl)) dX0_dropEdgePoints_40 ⟨Nat.le_of_ble_eq_true rfl, Nat.le_of_ble_eq_true rfl⟩).run (fun r47 hr47 => ?_)
            subst hr47
            refine lv_if_eq (tgt := 50) hx hb dX0_dropEdgePoints_43 (by decide) (fun c43 => ?_) (fun c43 => ?_)
            · skip
              refine lv_iconst (v := nI 0) hx hb dX0_dropEdgePoints_50 (by decide) ?_
              refine lv_istore_n (lv' := [(3, .int (nI 0)), (2, .int (nI 1)), (1, .int (nI (2 * i))), (0, .ref h)]) hx hb dX0_dropEdgePoints_51 rfl hl (by decide) rfl (fun ls hl => ?_)
              refine lv_iload_n hx hb dX0_dropEdgePoints_52 rfl (lv_at hl 1 rfl) ?_
              refine lv_if_eq (tgt := 60) hx hb dX0_dropEdgePoints_53 (by decide) (fun c53 => ?_) (fun c53 => ?_)
              · skip
                have c53 : 1 = 0 := (nc_eq (a := 1) (b := 0) (by omega) (by omega)).mp c53
                refine lv_aload_n hx hb dX0_dropEdgePoints_60 rfl (lv_at hl 3 rfl) ?_
                refine lv_iload_n hx hb dX0_dropEdgePoints_61 rfl (lv_at hl 2 rfl) ?_
                refine lv_iconst (v := nI 0) hx hb dX0_dropEdgePoints_62 (by decide) ?_
                refine va_callv (va_runV (As := [.int (nI (2 * i)), .int (nI 0)]) (rest := []) ⟨hx, hb, hml, hown, hts⟩ (conX0_write l D T h a (dropZ f i) (nI (2 * i)) (nI 0) (rfl)) (cwV 2 hts gX0_dropEdgePoints_X0_write rfl rfl rfl (by decide +kernel) ⟨Nat.le_of_ble_eq_true rfl, Nat.le_of_ble_eq_true rfl⟩) (preV hK hh rfl ⟨hh, ha, hne⟩) rfl rfl hl.1 rfl (lv_room (Nat.le_of_ble_eq_true rfl)) dX0_dropEdgePoints_63 ⟨Nat.le_of_ble_eq_true rfl, Nat.le_of_ble_eq_true rfl⟩) hS (fun q _ h9 => (by have h8 : q = a := h9; rw [h8]; exact hA_a)) (fun q h9 => (by have h8 : q = a := h9; rw [h8]; exact hA_a)) (fun u t H1 locs1 ht hvm hw hB hz1 hk1 hS => ?_)
                try dsimp only at hB
                rw [ht] at hB
                replace hh := hh.kept (hk1 _ hh.lt (fun h9 => hne h9))
                have ha := hB
                refine lv_iinc (v := nI ((2 * i) + 2)) (lv' := [(1, .int (nI ((2 * i) + 2))), (3, .int (nI 0)), (2, .int (nI 1)), (0, .ref h)]) hx hb dX0_dropEdgePoints_66 hl (k := 2) rfl (inc_2 _) (by decide) rfl (fun ls hl => ?_)
                refine lv_goto (tgt := 2) hx hb dX0_dropEdgePoints_69 (by decide) ?_
                have e48 : nI ((2 * i) + 2) = nI (2 * (i + 1)) := by (first | rfl | (congr 1; omega))
                have e49 : (eN (T 0) 201 (wrZ (dropZ f i) (nI (2 * i)) (nI 0))) = (eN (T 0) 201 (dropZ f (i + 1))) := by first | (rw [dropZ_s, if_pos (by simp_all)]; done) | (rw [dropZ_s, if_neg (by simp_all)]; done)
                exact hnext _ _ _ ⟨hS, lv_sub (lv_ex hl 0 rfl (congrArg Value.int e48)) [0, 3] rfl, hh, (by rw [← e49]; exact ha)⟩
              · skip
                have c53 : ¬ (1 = 0) := fun q9 => c53 ((nc_eq (a := 1) (b := 0) (by omega) (by omega)).mpr q9)
                refine lv_iload_n hx hb dX0_dropEdgePoints_56 rfl (lv_at hl 0 rfl) ?_
                refine lv_if_ne (tgt := 66) hx hb dX0_dropEdgePoints_57 (by decide) (fun c57 => ?_) (fun c57 => ?_)
                · skip
                  have c57 : ¬ (0 = 0) := fun q9 => c57 ((nc_eq (a := 0) (b := 0) (by omega) (by omega)).mpr q9)
                  refine lv_iinc (v := nI ((2 * i) + 2)) (lv' := [(1, .int (nI ((2 * i) + 2))), (3, .int (nI 0)), (2, .int (nI 1)), (0, .ref h)]) hx hb dX0_dropEdgePoints_66 hl (k := 2) rfl (inc_2 _) (by decide) rfl (fun ls hl => ?_)
                  refine lv_goto (tgt := 2) hx hb dX0_dropEdgePoints_69 (by decide) ?_
                  have e50 : nI ((2 * i) + 2) = nI (2 * (i + 1)) := by (first | rfl | (congr 1; omega))
                  have e51 : (eN (T 0) 201 (dropZ f i)) = (eN (T 0) 201 (dropZ f (i + 1))) := by first | (rw [dropZ_s, if_pos (by simp_all)]; done) | (rw [dropZ_s, if_neg (by simp_all)]; done)
                  exact hnext _ _ _ ⟨hS, lv_sub (lv_ex hl 0 rfl (congrArg Value.int e50)) [0, 3] rfl, hh, (by rw [← e51]; exact ha)⟩
                · skip
                  have c57 : 0 = 0 := (nc_eq (a := 0) (b := 0) (by omega) (by omega)).mp c57
                  refine lv_aload_n hx hb dX0_dropEdgePoints_60 rfl (lv_at hl 3 rfl) ?_
                  refine lv_iload_n hx hb dX0_dropEdgePoints_61 rfl (lv_at hl 2 rfl) ?_
                  refine lv_iconst (v := nI 0) hx hb dX0_dropEdgePoints_62 (by decide) ?_
                  refine va_callv (va_runV (As := [.int (nI (2 * i)), .int (nI 0)]) (rest := []) ⟨hx, hb, hml, hown, hts⟩ (conX0_write l D T h a (dropZ f i) (nI (2 * i)) (nI 0) (rfl)) (cwV 2 hts gX0_dropEdgePoints_X0_write rfl rfl rfl (by decide +kernel) ⟨Nat.le_of_ble_eq_true rfl, Nat.le_of_ble_eq_true rfl⟩) (preV hK hh rfl ⟨hh, ha, hne⟩) rfl rfl hl.1 rfl (lv_room (Nat.le_of_ble_eq_true rfl)) dX0_dropEdgePoints_63 ⟨Nat.le_of_ble_eq_true rfl, Nat.le_of_ble_eq_true rfl⟩) hS (fun q _ h9 => (by have h8 : q = a := h9; rw [h8]; exact hA_a)) (fun q h9 => (by have h8 : q = a := h9; rw [h8]; exact hA_a)) (fun u t H1 locs1 ht hvm hw hB hz1 hk1 hS => ?_)
                  try dsimp only at hB
                  rw [ht] at hB
                  replace hh := hh.kept (hk1 _ hh.lt (fun h9 => hne h9))
                  have ha := hB
                  refine lv_iinc (v := nI ((2 * i) + 2)) (lv' := [(1, .int (nI ((2 * i) + 2))), (3, .int (nI 0)), (2, .int (nI 1)), (0, .ref h)]) hx hb dX0_dropEdgePoints_66 hl (k := 2) rfl (inc_2 _) (by decide) rfl (fun ls hl => ?_)
                  refine lv_goto (tgt := 2) hx hb dX0_dropEdgePoints_69 (by decide) ?_
                  have e52 : nI ((2 * i) + 2) = nI (2 * (i + 1)) := by (first | rfl | (congr 1; omega))
                  have e53 : (eN (T 0) 201 (wrZ (dropZ f i) (nI (2 * i)) (nI 0))) = (eN (T 0) 201 (dropZ f (i + 1))) := by first | (rw [dropZ_s, if_pos (by simp_all)]; done) | (rw [dropZ_s, if_neg (by simp_all)]; done)
                  exact hnext _ _ _ ⟨hS, lv_sub (lv_ex hl 0 rfl (congrArg Value.int e52)) [0, 3] rfl, hh, (by rw [← e53]; exact ha)⟩
            · skip
              refine lv_iconst (v := nI 1) hx hb dX0_dropEdgePoints_46 (by decide) ?_
              refine lv_goto (tgt := 51) hx hb dX0_dropEdgePoints_47 (by decide) ?_
              refine lv_istore_n (lv' := [(3, .int (nI 1)), (2, .int (nI 1)), (1, .int (nI (2 * i))), (0, .ref h)]) hx hb dX0_dropEdgePoints_51 rfl hl (by decide) rfl (fun ls hl => ?_)
              refine lv_iload_n hx hb dX0_dropEdgePoints_52 rfl (lv_at hl 1 rfl) ?_
              refine lv_if_eq (tgt := 60) hx hb dX0_dropEdgePoints_53 (by decide) (fun c53 => ?_) (fun c53 => ?_)
              · skip
                have c53 : 1 = 0 := (nc_eq (a := 1) (b := 0) (by omega) (by omega)).mp c53
                refine lv_aload_n hx hb dX0_dropEdgePoints_60 rfl (lv_at hl 3 rfl) ?_
                refine lv_iload_n hx hb dX0_dropEdgePoints_61 rfl (lv_at hl 2 rfl) ?_
                refine lv_iconst (v := nI 0) hx hb dX0_dropEdgePoints_62 (by decide) ?_
                refine va_callv (va_runV (As := [.int (nI (2 * i)), .int (nI 0)]) (rest := []) ⟨hx, hb, hml, hown, hts⟩ (conX0_write l D T h a (dropZ f i) (nI (2 * i)) (nI 0) (rfl)) (cwV 2 hts gX0_dropEdgePoints_X0_write rfl rfl rfl (by decide +kernel) ⟨Nat.le_of_ble_eq_true rfl, Nat.le_of_ble_eq_true rfl⟩) (preV hK hh rfl ⟨hh, ha, hne⟩) rfl rfl hl.1 rfl (lv_room (Nat.le_of_ble_eq_true rfl)) dX0_dropEdgePoints_63 ⟨Nat.le_of_ble_eq_true rfl, Nat.le_of_ble_eq_true rfl⟩) hS (fun q _ h9 => (by have h8 : q = a := h9; rw [h8]; exact hA_a)) (fun q h9 => (by have h8 : q = a := h9; rw [h8]; exact hA_a)) (fun u t H1 locs1 ht hvm hw hB hz1 hk1 hS => ?_)
                try dsimp only at hB
                rw [ht] at hB
                replace hh := hh.kept (hk1 _ hh.lt (fun h9 => hne h9))
                have ha := hB
                refine lv_iinc (v := nI ((2 * i) + 2)) (lv' := [(1, .int (nI ((2 * i) + 2))), (3, .int (nI 1)), (2, .int (nI 1)), (0, .ref h)]) hx hb dX0_dropEdgePoints_66 hl (k := 2) rfl (inc_2 _) (by decide) rfl (fun ls hl => ?_)
                refine lv_goto (tgt := 2) hx hb dX0_dropEdgePoints_69 (by decide) ?_
                have e54 : nI ((2 * i) + 2) = nI (2 * (i + 1)) := by (first | rfl | (congr 1; omega))
                have e55 : (eN (T 0) 201 (wrZ (dropZ f i) (nI (2 * i)) (nI 0))) = (eN (T 0) 201 (dropZ f (i + 1))) := by first | (rw [dropZ_s, if_pos (by simp_all)]; done) | (rw [dropZ_s, if_neg (by simp_all)]; done)
                exact hnext _ _ _ ⟨hS, lv_sub (lv_ex hl 0 rfl (congrArg Value.int e54)) [0, 3] rfl, hh, (by rw [← e55]; exact ha)⟩
              · skip
                have c53 : ¬ (1 = 0) := fun q9 => c53 ((nc_eq (a := 1) (b := 0) (by omega) (by omega)).mpr q9)
                refine lv_iload_n hx hb dX0_dropEdgePoints_56 rfl (lv_at hl 0 rfl) ?_
                refine lv_if_ne (tgt := 66) hx hb dX0_dropEdgePoints_57 (by decide) (fun c57 => ?_) (fun c57 => ?_)
                · skip
                  have c57 : ¬ (1 = 0) := fun q9 => c57 ((nc_eq (a := 1) (b := 0) (by omega) (by omega)).mpr q9)
                  refine lv_iinc (v := nI ((2 * i) + 2)) (lv' := [(1, .int (nI ((2 * i) + 2))), (3, .int (nI 1)), (2, .int (nI 1)), (0, .ref h)]) hx hb dX0_dropEdgePoints_66 hl (k := 2) rfl (inc_2 _) (by decide) rfl (fun ls hl => ?_)
                  refine lv_goto (tgt := 2) hx hb dX0_dropEdgePoints_69 (by decide) ?_
                  have e56 : nI ((2 * i) + 2) = nI (2 * (i + 1)) := by (first | rfl | (congr 1; omega))
                  have e57 : (eN (T 0) 201 (dropZ f i)) = (eN (T 0) 201 (dropZ f (i + 1))) := by first | (rw [dropZ_s, if_pos (by simp_all)]; done) | (rw [dropZ_s, if_neg (by simp_all)]; done)
                  exact hnext _ _ _ ⟨hS, lv_sub (lv_ex hl 0 rfl (congrArg Value.int e56)) [0, 3] rfl, hh, (by rw [← e57]; exact ha)⟩
                · skip
                  have c57 : 1 = 0 := (nc_eq (a := 1) (b := 0) (by omega) (by omega)).mp c57
                  refine lv_aload_n hx hb dX0_dropEdgePoints_60 rfl (lv_at hl 3 rfl) ?_
                  refine lv_iload_n hx hb dX0_dropEdgePoints_61 rfl (lv_at hl 2 rfl) ?_
                  refine lv_iconst (v := nI 0) hx hb dX0_dropEdgePoints_62 (by decide) ?_
                  refine va_callv (va_runV (As := [.int (nI (2 * i)), .int (nI 0)]) (rest := []) ⟨hx, hb, hml, hown, hts⟩ (conX0_write l D T h a (dropZ f i) (nI (2 * i)) (nI 0) (rfl)) (cwV 2 hts gX0_dropEdgePoints_X0_write rfl rfl rfl (by decide +kernel) ⟨Nat.le_of_ble_eq_true rfl, Nat.le_of_ble_eq_true rfl⟩) (preV hK hh rfl ⟨hh, ha, hne⟩) rfl rfl hl.1 rfl (lv_room (Nat.le_of_ble_eq_true rfl)) dX0_dropEdgePoints_63 ⟨Nat.le_of_ble_eq_true rfl, Nat.le_of_ble_eq_true rfl⟩) hS (fun q _ h9 => (by have h8 : q = a := h9; rw [h8]; exact hA_a)) (fun q h9 => (by have h8 : q = a := h9; rw [h8]; exact hA_a)) (fun u t H1 locs1 ht hvm hw hB hz1 hk1 hS => ?_)
                  try dsimp only at hB
                  rw [ht] at hB
                  replace hh := hh.kept (hk1 _ hh.lt (fun h9 => hne h9))
                  have ha := hB
                  refine lv_iinc (v := nI ((2 * i) + 2)) (lv' := [(1, .int (nI ((2 * i) + 2))), (3, .int (nI 1)), (2, .int (nI 1)), (0, .ref h)]) hx hb dX0_dropEdgePoints_66 hl (k := 2) rfl (inc_2 _) (by decide) rfl (fun ls hl => ?_)
                  refine lv_goto (tgt := 2) hx hb dX0_dropEdgePoints_69 (by decide) ?_
                  have e58 : nI ((2 * i) + 2) = nI (2 * (i + 1)) := by (first | rfl | (congr 1; omega))
                  have e59 : (eN (T 0) 201 (wrZ (dropZ f i) (nI (2 * i)) (nI 0))) = (eN (T 0) 201 (dropZ f (i + 1))) := by first | (rw [dropZ_s, if_pos (by simp_all)]; done) | (rw [dropZ_s, if_neg (by simp_all)]; done)
                  exact hnext _ _ _ ⟨hS, lv_sub (lv_ex hl 0 rfl (congrArg Value.int e58)) [0, 3] rfl, hh, (by rw [← e59]; exact ha)⟩
  · skip
    intro H locs ls hin9
    obtain ⟨hS, hl, hh, ha⟩ := hin9
    refine lv_iload_n hx hb dX0_dropEdgePoints_2 rfl (lv_at hl 0 rfl) ?_
    refine lv_sipush (v := nI 201) hx hb dX0_dropEdgePoints_3 (by decide) ?_
    refine lv_icmp_ge (tgt := 72) hx hb dX0_dropEdgePoints_6 (by decide) (fun c6 => ?_) (fun c6 => ?_)
    · skip
      have c6 : 201 ≤ 202 := (nc_le (a := 201) (b := 202) (by omega) (by omega)).mp c6
      exact W.vret hx hb hr (fun t ht _ => ⟨⟨(), rfl, trivial, by dsimp only; rw [ht]; exact ha⟩, hS.F ht⟩) hS.2.2 dX0_dropEdgePoints_72
    · skip
      have c6 : ¬ (201 ≤ 202) := fun q9 => c6 ((nc_le (a := 201) (b := 202) (by omega) (by omega)).mpr q9)
      omega

set_option maxHeartbeats 4000000 in
set_option maxRecDepth 100000 in
theorem conX0_addEdgePoints (l : Launch) (D : va_G) (T : Nat → ClassId) (h a : Nat) (f : Nat → Int32) : Met l yX0_addEdgePoints wsX0_addEdgePoints ({ frames := 1, cells := 0, slots := 0, locals := 22 }) (cP D T [.ref h] (fun H => GS D T h a f H)) (va_Qv (fun (_ : Unit) => True) (fun _ t => pAt D t.heap a (eN (T 0) 201 (edgZ (nI 1) f 101))) (fun q : Nat => q = a)) 0 0 (fun q : Nat => q = a) := by
  refine Met.ofW (cc := cX0_addEdgePoints) (maxL := 2) (ret := none) (by decide) rfl ?_
  intro p e s m args below meth c s₁ B hml hv9
  obtain ⟨rfl, hK, hh, ha, hne⟩ := hv9
  have hx := B.exec
  have hb := B.bytes
  have hr := B.returns
  have hts := atoms_spec (ws := wsX0_addEdgePoints) B.pre
  have hown : s.vm.findClass RX0 = some m.cls := findClass_of_methodNamed B.named
  have hlocks := B.notSynchronized
  generalize hAe : (fun q : Nat => q = a) = A
  have hA_a : A a := by subst hAe; first | rfl | exact Or.inl rfl | exact Or.inr rfl | (simp; done)
  have hS : va_S A s.heap s.heap [] := va_S.rf
  have hl := lv_entry ([.ref h]) (n := 2) (Nat.le_of_ble_eq_true rfl)
  rw [lg_entry_eq]
  generalize (lg_sl ([.ref h]) ++ List.replicate (2 - (lg_sl ([.ref h])).length) Slot.unset).toArray = ls at hl ⊢
  have hl : lv_has ls 2 [(0, .ref h)] := hl
  refine lv_iconst (v := nI 0) hx hb dX0_addEdgePoints_0 (by decide) ?_
  refine lv_istore_n (lv' := [(1, .int (nI 0)), (0, .ref h)]) hx hb dX0_addEdgePoints_1 rfl hl (by decide) rfl (fun ls hl => ?_)
  refine q_for (fun (i : Nat) (H : Heap) (locs : List Loc) (ls : Array Slot) => va_S A s.heap H locs ∧ lv_has ls 2 [(1, .int (nI (2 * i))), (0, .ref h)] ∧ pAt D H h (eO 0 [.ref a]) ∧ pAt D H a (eN (T 0) 201 (edgZ (nI 1) f i))) (N := 101) 0 (by omega) ?_ ?_ ?_
  · skip
    have e1 : (eN (T 0) 201 f) = (eN (T 0) 201 (edgZ (nI 1) f 0)) := by rfl
    exact ⟨hS, lv_sub hl [0, 1] rfl, hh, (by rw [← e1]; exact ha)⟩
  · skip
    intro i H locs ls hi9 hin9 hnext
    obtain ⟨hS, hl, hh, ha⟩ := hin9
    refine lv_iload_n hx hb dX0_addEdgePoints_2 rfl (lv_at hl 0 rfl) ?_
    refine lv_sipush (v := nI 201) hx hb dX0_addEdgePoints_3 (by decide) ?_
    refine lv_icmp_ge (tgt := 41) hx hb dX0_addEdgePoints_6 (by decide) (fun c6 => ?_) (fun c6 => ?_)
    · skip
      have c6 : 201 ≤ 2 * i := (nc_le (a := 201) (b := 2 * i) (by omega) (by omega)).mp c6
      omega
    · skip
      have c6 : ¬ (201 ≤ 2 * i) := fun q9 => c6 ((nc_le (a := 201) (b := 2 * i) (by omega) (by omega)).mpr q9)
      refine lv_aload_n hx hb dX0_addEdgePoints_9 rfl (lv_at hl 1 rfl) ?_
      refine lv_iload_n hx hb dX0_addEdgePoints_10 rfl (lv_at hl 0 rfl) ?_
      refine lv_iconst (v := nI 1) hx hb dX0_addEdgePoints_11 (by decide) ?_
      refine lv_isub hx hb dX0_addEdgePoints_12 ?_
      refine vp_callSi (va_runV (As := [.int ((nI (2 * i)) - (nI 1))]) (rest := []) ⟨hx, hb, hml, hown, hts⟩ (conX0_holds l D T h a (edgZ (nI 1) f i) ((nI (2 * i)) - (nI 1))) (cwV 1 hts gX0_addEdgePoints_X0_holds rfl rfl rfl (by decide +kernel) ⟨Nat.le_of_ble_eq_true rfl, Nat.le_of_ble_eq_true rfl⟩) (preV hK hh rfl ⟨hh, ha, hne⟩) rfl rfl hl.1 rfl (lv_room (Nat.le_of_ble_eq_true rfl)) dX0_addEdgePoints_13 ⟨Nat.le_of_ble_eq_true rfl, Nat.le_of_ble_eq_true rfl⟩).run (fun r2 hr2 => ?_)
      subst hr2
      refine lv_if_ne (tgt := 29) hx hb dX0_addEdgePoints_16 (by decide) (fun c16 => ?_) (fun c16 => ?_)
      · skip
        refine lv_aload_n hx hb dX0_addEdgePoints_29 rfl (lv_at hl 1 rfl) ?_
        refine lv_iload_n hx hb dX0_addEdgePoints_30 rfl (lv_at hl 0 rfl) ?_
        refine lv_iconst (v := nI 1) hx hb dX0_addEdgePoints_31 (by decide) ?_
        refine va_callv (va_runV (As := [.int (nI (2 * i)), .int (nI 1)]) (rest := []) ⟨hx, hb, hml, hown, hts⟩ (conX0_write l D T h a (edgZ (nI 1) f i) (nI (2 * i)) (nI 1) (rfl)) (cwV 2 hts gX0_addEdgePoints_X0_write rfl rfl rfl (by decide +kernel) ⟨Nat.le_of_ble_eq_true rfl, Nat.le_of_ble_eq_true rfl⟩) (preV hK hh rfl ⟨hh, ha, hne⟩) rfl rfl hl.1 rfl (lv_room (Nat.le_of_ble_eq_true rfl)) dX0_addEdgePoints_32 ⟨Nat.le_of_ble_eq_true rfl, Nat.le_of_ble_eq_true rfl⟩) hS (fun q _ h9 => (by have h8 : q = a := h9; rw [h8]; exact hA_a)) (fun q h9 => (by have h8 : q = a := h9; rw [h8]; exact hA_a)) (fun u t H1 locs1 ht hvm hw hB hz1 hk1 hS => ?_)
        try dsimp only at hB
        rw [ht] at hB
        replace hh := hh.kept (hk1 _ hh.lt (fun h9 => hne h9))
        have ha := hB
        refine lv_iinc (v := nI ((2 * i) + 2)) (lv' := [(1, .int (nI ((2 * i) + 2))), (0, .ref h)]) hx hb dX0_addEdgePoints_35 hl (k := 0) rfl (inc_2 _) (by decide) rfl (fun ls hl => ?_)
        refine lv_goto (tgt := 2) hx hb dX0_addEdgePoints_38 (by decide) ?_
        have e3 : nI ((2 * i) + 2) = nI (2 * (i + 1)) := by (first | rfl | (congr 1; omega))
        have e4 : (eN (T 0) 201 (wrZ (edgZ (nI 1) f i) (nI (2 * i)) (nI 1))) = (eN (T 0) 201 (edgZ (nI 1) f (i + 1))) := by first | (rw [edgZ_s, if_pos (by simp_all)]; done) | (rw [edgZ_s, if_neg (by simp_all)]; done)
        exact hnext _ _ _ ⟨hS, lv_sub (lv_ex hl 0 rfl (congrArg Value.int e3)) [0, 1] rfl, hh, (by rw [← e4]; exact ha)⟩
      · skip
        refine lv_aload_n hx hb dX0_addEdgePoints_19 rfl (lv_at hl 1 rfl) ?_
        refine lv_iload_n hx hb dX0_addEdgePoints_20 rfl (lv_at hl 0 rfl) ?_
        refine lv_iconst (v := nI 1) hx hb dX0_addEdgePoints_21 (by decide) ?_
        refine lv_iadd hx hb dX0_addEdgePoints_22 ?_
        rw [nI_add]
        refine vp_callSi (va_runV (As := [.int (nI ((2 * i) + 1))]) (rest := []) ⟨hx, hb, hml, hown, hts⟩ (conX0_holds l D T h a (edgZ (nI 1) f i) (nI ((2 * i) + 1))) (cwV 1 hts gX0_addEdgePoints_X0_holds rfl rfl rfl (by decide +kernel) ⟨Nat.le_of_ble_eq_true rfl, Nat.le_of_ble_eq_true rfl⟩) (preV hK hh rfl ⟨hh, ha, hne⟩) rfl rfl hl.1 rfl (lv_room (Nat.le_of_ble_eq_true rfl)) dX0_addEdgePoints_23 ⟨Nat.le_of_ble_eq_true rfl, Nat.le_of_ble_eq_true rfl⟩).run (fun r5 hr5 => ?_)
        subst hr5
        refine lv_if_eq (tgt := 35) hx hb dX0_addEdgePoints_26 (by decide) (fun c26 => ?_) (fun c26 => ?_)
        · skip
          refine lv_iinc (v := nI ((2 * i) + 2)) (lv' := [(1, .int (nI ((2 * i) + 2))), (0, .ref h)]) hx hb dX0_addEdgePoints_35 hl (k := 0) rfl (inc_2 _) (by decide) rfl (fun ls hl => ?_)
          refine lv_goto (tgt := 2) hx hb dX0_addEdgePoints_38 (by decide) ?_
          have e6 : nI ((2 * i) + 2) = nI (2 * (i + 1)) := by (first | rfl | (congr 1; omega))
          have e7 : (eN (T 0) 201 (edgZ (nI 1) f i)) = (eN (T 0) 201 (edgZ (nI 1) f (i + 1))) := by first | (rw [edgZ_s, if_pos (by simp_all)]; done) | (rw [edgZ_s, if_neg (by simp_all)]; done)
          exact hnext _ _ _ ⟨hS, lv_sub (lv_ex hl 0 rfl (congrArg Value.int e6)) [0, 1] rfl, hh, (by rw [← e7]; exact ha)⟩
        · skip
          refine lv_aload_n hx hb dX0_addEdgePoints_29 rfl (lv_at hl 1 rfl) ?_
          refine lv_iload_n hx hb dX0_addEdgePoints_30 rfl (lv_at hl 0 rfl) ?_
          refine lv_iconst (v := nI 1) hx hb dX0_addEdgePoints_31 (by decide) ?_
          refine va_callv (va_runV (As := [.int (nI (2 * i)), .int (nI 1)]) (rest := []) ⟨hx, hb, hml, hown, hts⟩ (conX0_write l D T h a (edgZ (nI 1) f i) (nI (2 * i)) (nI 1) (rfl)) (cwV 2 hts gX0_addEdgePoints_X0_write rfl rfl rfl (by decide +kernel) ⟨Nat.le_of_ble_eq_true rfl, Nat.le_of_ble_eq_true rfl⟩) (preV hK hh rfl ⟨hh, ha, hne⟩) rfl rfl hl.1 rfl (lv_room (Nat.le_of_ble_eq_true rfl)) dX0_addEdgePoints_32 ⟨Nat.le_of_ble_eq_true rfl, Nat.le_of_ble_eq_true rfl⟩) hS (fun q _ h9 => (by have h8 : q = a := h9; rw [h8]; exact hA_a)) (fun q h9 => (by have h8 : q = a := h9; rw [h8]; exact hA_a)) (fun u t H1 locs1 ht hvm hw hB hz1 hk1 hS => ?_)
          try dsimp only at hB
          rw [ht] at hB
          replace hh := hh.kept (hk1 _ hh.lt (fun h9 => hne h9))
          have ha := hB
          refine lv_iinc (v := nI ((2 * i) + 2)) (lv' := [(1, .int (nI ((2 * i) + 2))), (0, .ref h)]) hx hb dX0_addEdgePoints_35 hl (k := 0) rfl (inc_2 _) (by decide) rfl (fun ls hl => ?_)
          refine lv_goto (tgt := 2) hx hb dX0_addEdgePoints_38 (by decide) ?_
          have e8 : nI ((2 * i) + 2) = nI (2 * (i + 1)) := by (first | rfl | (congr 1; omega))
          have e9 : (eN (T 0) 201 (wrZ (edgZ (nI 1) f i) (nI (2 * i)) (nI 1))) = (eN (T 0) 201 (edgZ (nI 1) f (i + 1))) := by first | (rw [edgZ_s, if_pos (by simp_all)]; done) | (rw [edgZ_s, if_neg (by simp_all)]; done)
          exact hnext _ _ _ ⟨hS, lv_sub (lv_ex hl 0 rfl (congrArg Value.int e8)) [0, 1] rfl, hh, (by rw [← e9]; exact ha)⟩
  · skip
    intro H locs ls hin9
    obtain ⟨hS, hl, hh, ha⟩ := hin9
    refine lv_iload_n hx hb dX0_addEdgePoints_2 rfl (lv_at hl 0 rfl) ?_
    refine lv_sipush (v := nI 201) hx hb dX0_addEdgePoints_3 (by decide) ?_
    refine lv_icmp_ge (tgt := 41) hx hb dX0_addEdgePoints_6 (by decide) (fun c6 => ?_) (fun c6 => ?_)
    · skip
      have c6 : 201 ≤ 202 := (nc_le (a := 201) (b := 202) (by omega) (by omega)).mp c6
      exact W.vret hx hb hr (fun t ht _ => ⟨⟨(), rfl, trivial, by dsimp only; rw [ht]; exact ha⟩, hS.F ht⟩) hS.2.2 dX0_addEdgePoints_41
    · skip
      have c6 : ¬ (201 ≤ 202) := fun q9 => c6 ((nc_le (a := 201) (b := 202) (by omega) (by omega)).mpr q9)
      omega

set_option maxHeartbeats 4000000 in
set_option maxRecDepth 100000 in
theorem conX0_keepLonePoints (l : Launch) (D : va_G) (T : Nat → ClassId) (h a : Nat) (f : Nat → Int32) : Met l yX0_keepLonePoints wsX0_keepLonePoints ({ frames := 1, cells := 0, slots := 0, locals := 22 }) (cP D T [.ref h] (fun H => GS D T h a f H)) (va_Qv (fun (_ : Unit) => True) (fun _ t => pAt D t.heap a (eN (T 0) 201 (oddZ (edgZ (nI 0) f 101) 100))) (fun q : Nat => q = a)) 0 0 (fun q : Nat => q = a) := by
  refine Met.ofW (cc := cX0_keepLonePoints) (maxL := 2) (ret := none) (by decide) rfl ?_
  intro p e s m args below meth c s₁ B hml hv9
  obtain ⟨rfl, hK, hh, ha, hne⟩ := hv9
  have hx := B.exec
  have hb := B.bytes
  have hr := B.returns
  have hts := atoms_spec (ws := wsX0_keepLonePoints) B.pre
  have hown : s.vm.findClass RX0 = some m.cls := findClass_of_methodNamed B.named
  have hlocks := B.notSynchronized
  generalize hAe : (fun q : Nat => q = a) = A
  have hA_a : A a := by subst hAe; first | rfl | exact Or.inl rfl | exact Or.inr rfl | (simp; done)
  have hS : va_S A s.heap s.heap [] := va_S.rf
  have hl := lv_entry ([.ref h]) (n := 2) (Nat.le_of_ble_eq_true rfl)
  rw [lg_entry_eq]
  generalize (lg_sl ([.ref h]) ++ List.replicate (2 - (lg_sl ([.ref h])).length) Slot.unset).toArray = ls at hl ⊢
  have hl : lv_has ls 2 [(0, .ref h)] := hl
  refine lv_iconst (v := nI 0) hx hb dX0_keepLonePoints_0 (by decide) ?_
  refine lv_istore_n (lv' := [(1, .int (nI 0)), (0, .ref h)]) hx hb dX0_keepLonePoints_1 rfl hl (by decide) rfl (fun ls hl => ?_)
  refine q_for (fun (i : Nat) (H : Heap) (locs : List Loc) (ls : Array Slot) => va_S A s.heap H locs ∧ lv_has ls 2 [(1, .int (nI (2 * i))), (0, .ref h)] ∧ pAt D H h (eO 0 [.ref a]) ∧ pAt D H a (eN (T 0) 201 (edgZ (nI 0) f i))) (N := 101) 0 (by omega) ?_ ?_ ?_
  · skip
    have e1 : (eN (T 0) 201 f) = (eN (T 0) 201 (edgZ (nI 0) f 0)) := by rfl
    exact ⟨hS, lv_sub hl [0, 1] rfl, hh, (by rw [← e1]; exact ha)⟩
  · skip
    intro i H locs ls hi9 hin9 hnext
    obtain ⟨hS, hl, hh, ha⟩ := hin9
    refine lv_iload_n hx hb dX0_keepLonePoints_2 rfl (lv_at hl 0 rfl) ?_
    refine lv_sipush (v := nI 201) hx hb dX0_keepLonePoints_3 (by decide) ?_
    refine lv_icmp_ge (tgt := 41) hx hb dX0_keepLonePoints_6 (by decide) (fun c6 => ?_) (fun c6 => ?_)
    · skip
      have c6 : 201 ≤ 2 * i := (nc_le (a := 201) (b := 2 * i) (by omega) (by omega)).mp c6
      omega
    · skip
      have c6 : ¬ (201 ≤ 2 * i) := fun q9 => c6 ((nc_le (a := 201) (b := 2 * i) (by omega) (by omega)).mpr q9)
      refine lv_aload_n hx hb dX0_keepLonePoints_9 rfl (lv_at hl 1 rfl) ?_
      refine lv_iload_n hx hb dX0_keepLonePoints_10 rfl (lv_at hl 0 rfl) ?_
      refine lv_iconst (v := nI 1) hx hb dX0_keepLonePoints_11 (by decide) ?_
      refine lv_isub hx hb dX0_keepLonePoints_12 ?_
      refine vp_callSi (va_runV (As := [.int ((nI (2 * i)) - (nI 1))]) (rest := []) ⟨hx, hb, hml, hown, hts⟩ (conX0_holds l D T h a (edgZ (nI 0) f i) ((nI (2 * i)) - (nI 1))) (cwV 1 hts gX0_keepLonePoints_X0_holds rfl rfl rfl (by decide +kernel) ⟨Nat.le_of_ble_eq_true rfl, Nat.le_of_ble_eq_true rfl⟩) (preV hK hh rfl ⟨hh, ha, hne⟩) rfl rfl hl.1 rfl (lv_room (Nat.le_of_ble_eq_true rfl)) dX0_keepLonePoints_13 ⟨Nat.le_of_ble_eq_true rfl, Nat.le_of_ble_eq_true rfl⟩).run (fun r2 hr2 => ?_)
      subst hr2
      refine lv_if_ne (tgt := 29) hx hb dX0_keepLonePoints_16 (by decide) (fun c16 => ?_) (fun c16 => ?_)
      · skip
        refine lv_aload_n hx hb dX0_keepLonePoints_29 rfl (lv_at hl 1 rfl) ?_
        refine lv_iload_n hx hb dX0_keepLonePoints_30 rfl (lv_at hl 0 rfl) ?_
        refine lv_iconst (v := nI 0) hx hb dX0_keepLonePoints_31 (by decide) ?_
        refine va_callv (va_runV (As := [.int (nI (2 * i)), .int (nI 0)]) (rest := []) ⟨hx, hb, hml, hown, hts⟩ (conX0_write l D T h a (edgZ (nI 0) f i) (nI (2 * i)) (nI 0) (rfl)) (cwV 2 hts gX0_keepLonePoints_X0_write rfl rfl rfl (by decide +kernel) ⟨Nat.le_of_ble_eq_true rfl, Nat.le_of_ble_eq_true rfl⟩) (preV hK hh rfl ⟨hh, ha, hne⟩) rfl rfl hl.1 rfl (lv_room (Nat.le_of_ble_eq_true rfl)) dX0_keepLonePoints_32 ⟨Nat.le_of_ble_eq_true rfl, Nat.le_of_ble_eq_true rfl⟩) hS (fun q _ h9 => (by have h8 : q = a := h9; rw [h8]; exact hA_a)) (fun q h9 => (by have h8 : q = a := h9; rw [h8]; exact hA_a)) (fun u t H1 locs1 ht hvm hw hB hz1 hk1 hS => ?_)
        try dsimp only at hB
        rw [ht] at hB
        replace hh := hh.kept (hk1 _ hh.lt (fun h9 => hne h9))
        have ha := hB
        refine lv_iinc (v := nI ((2 * i) + 2)) (lv' := [(1, .int (nI ((2 * i) + 2))), (0, .ref h)]) hx hb dX0_keepLonePoints_35 hl (k := 0) rfl (inc_2 _) (by decide) rfl (fun ls hl => ?_)
        refine lv_goto (tgt := 2) hx hb dX0_keepLonePoints_38 (by decide) ?_
        have e3 : nI ((2 * i) + 2) = nI (2 * (i + 1)) := by (first | rfl | (congr 1; omega))
        have e4 : (eN (T 0) 201 (wrZ (edgZ (nI 0) f i) (nI (2 * i)) (nI 0))) = (eN (T 0) 201 (edgZ (nI 0) f (i + 1))) := by first | (rw [edgZ_s, if_pos (by simp_all)]; done) | (rw [edgZ_s, if_neg (by simp_all)]; done)
        exact hnext _ _ _ ⟨hS, lv_sub (lv_ex hl 0 rfl (congrArg Value.int e3)) [0, 1] rfl, hh, (by rw [← e4]; exact ha)⟩
      · skip
        refine lv_aload_n hx hb dX0_keepLonePoints_19 rfl (lv_at hl 1 rfl) ?_
        refine lv_iload_n hx hb dX0_keepLonePoints_20 rfl (lv_at hl 0 rfl) ?_
        refine lv_iconst (v := nI 1) hx hb dX0_keepLonePoints_21 (by decide) ?_
        refine lv_iadd hx hb dX0_keepLonePoints_22 ?_
        rw [nI_add]
        refine vp_callSi (va_runV (As := [.int (nI ((2 * i) + 1))]) (rest := []) ⟨hx, hb, hml, hown, hts⟩ (conX0_holds l D T h a (edgZ (nI 0) f i) (nI ((2 * i) + 1))) (cwV 1 hts gX0_keepLonePoints_X0_holds rfl rfl rfl (by decide +kernel) ⟨Nat.le_of_ble_eq_true rfl, Nat.le_of_ble_eq_true rfl⟩) (preV hK hh rfl ⟨hh, ha, hne⟩) rfl rfl hl.1 rfl (lv_room (Nat.le_of_ble_eq_true rfl)) dX0_keepLonePoints_23 ⟨Nat.le_of_ble_eq_true rfl, Nat.le_of_ble_eq_true rfl⟩).run (fun r5 hr5 => ?_)
        subst hr5
        refine lv_if_eq (tgt := 35) hx hb dX0_keepLonePoints_26 (by decide) (fun c26 => ?_) (fun c26 => ?_)
        · skip
          refine lv_iinc (v := nI ((2 * i) + 2)) (lv' := [(1, .int (nI ((2 * i) + 2))), (0, .ref h)]) hx hb dX0_keepLonePoints_35 hl (k := 0) rfl (inc_2 _) (by decide) rfl (fun ls hl => ?_)
          refine lv_goto (tgt := 2) hx hb dX0_keepLonePoints_38 (by decide) ?_
          have e6 : nI ((2 * i) + 2) = nI (2 * (i + 1)) := by (first | rfl | (congr 1; omega))
          have e7 : (eN (T 0) 201 (edgZ (nI 0) f i)) = (eN (T 0) 201 (edgZ (nI 0) f (i + 1))) := by first | (rw [edgZ_s, if_pos (by simp_all)]; done) | (rw [edgZ_s, if_neg (by simp_all)]; done)
          exact hnext _ _ _ ⟨hS, lv_sub (lv_ex hl 0 rfl (congrArg Value.int e6)) [0, 1] rfl, hh, (by rw [← e7]; exact ha)⟩
        · skip
          refine lv_aload_n hx hb dX0_keepLonePoints_29 rfl (lv_at hl 1 rfl) ?_
          refine lv_iload_n hx hb dX0_keepLonePoints_30 rfl (lv_at hl 0 rfl) ?_
          refine lv_iconst (v := nI 0) hx hb dX0_keepLonePoints_31 (by decide) ?_
          refine va_callv (va_runV (As := [.int (nI (2 * i)), .int (nI 0)]) (rest := []) ⟨hx, hb, hml, hown, hts⟩ (conX0_write l D T h a (edgZ (nI 0) f i) (nI (2 * i)) (nI 0) (rfl)) (cwV 2 hts gX0_keepLonePoints_X0_write rfl rfl rfl (by decide +kernel) ⟨Nat.le_of_ble_eq_true rfl, Nat.le_of_ble_eq_true rfl⟩) (preV hK hh rfl ⟨hh, ha, hne⟩) rfl rfl hl.1 rfl (lv_room (Nat.le_of_ble_eq_true rfl)) dX0_keepLonePoints_32 ⟨Nat.le_of_ble_eq_true rfl, Nat.le_of_ble_eq_true rfl⟩) hS (fun q _ h9 => (by have h8 : q = a := h9; rw [h8]; exact hA_a)) (fun q h9 => (by have h8 : q = a := h9; rw [h8]; exact hA_a)) (fun u t H1 locs1 ht hvm hw hB hz1 hk1 hS => ?_)
          try dsimp only at hB
          rw [ht] at hB
          replace hh := hh.kept (hk1 _ hh.lt (fun h9 => hne h9))
          have ha := hB
          refine lv_iinc (v := nI ((2 * i) + 2)) (lv' := [(1, .int (nI ((2 * i) + 2))), (0, .ref h)]) hx hb dX0_keepLonePoints_35 hl (k := 0) rfl (inc_2 _) (by decide) rfl (fun ls hl => ?_)
          refine lv_goto (tgt := 2) hx hb dX0_keepLonePoints_38 (by decide) ?_
          have e8 : nI ((2 * i) + 2) = nI (2 * (i + 1)) := by (first | rfl | (congr 1; omega))
          have e9 : (eN (T 0) 201 (wrZ (edgZ (nI 0) f i) (nI (2 * i)) (nI 0))) = (eN (T 0) 201 (edgZ (nI 0) f (i + 1))) := by first | (rw [edgZ_s, if_pos (by simp_all)]; done) | (rw [edgZ_s, if_neg (by simp_all)]; done)
          exact hnext _ _ _ ⟨hS, lv_sub (lv_ex hl 0 rfl (congrArg Value.int e8)) [0, 1] rfl, hh, (by rw [← e9]; exact ha)⟩
  · skip
    intro H locs ls hin9
    obtain ⟨hS, hl, hh, ha⟩ := hin9
    refine lv_iload_n hx hb dX0_keepLonePoints_2 rfl (lv_at hl 0 rfl) ?_
    refine lv_sipush (v := nI 201) hx hb dX0_keepLonePoints_3 (by decide) ?_
    refine lv_icmp_ge (tgt := 41) hx hb dX0_keepLonePoints_6 (by decide) (fun c6 => ?_) (fun c6 => ?_)
    · skip
      have c6 : 201 ≤ 202 := (nc_le (a := 201) (b := 202) (by omega) (by omega)).mp c6
      refine lv_iconst (v := nI 1) hx hb dX0_keepLonePoints_41 (by decide) ?_
      refine lv_istore_n (lv' := [(1, .int (nI 1)), (0, .ref h)]) hx hb dX0_keepLonePoints_42 rfl hl (by decide) rfl (fun ls hl => ?_)
      refine q_for (fun (i : Nat) (H : Heap) (locs : List Loc) (ls : Array Slot) => va_S A s.heap H locs ∧ lv_has ls 2 [(1, .int (nI (2 * i + 1))), (0, .ref h)] ∧ pAt D H h (eO 0 [.ref a]) ∧ pAt D H a (eN (T 0) 201 (oddZ (edgZ (nI 0) f 101) i))) (N := 100) 0 (by omega) ?_ ?_ ?_
      · skip
        have e10 : (eN (T 0) 201 (edgZ (nI 0) f 101)) = (eN (T 0) 201 (oddZ (edgZ (nI 0) f 101) 0)) := by (rw [oddZ_0])
        exact ⟨hS, lv_sub hl [0, 1] rfl, hh, (by rw [← e10]; exact ha)⟩
      · skip
        intro i H locs ls hi9 hin9 hnext
        obtain ⟨hS, hl, hh, ha⟩ := hin9
        refine lv_iload_n hx hb dX0_keepLonePoints_43 rfl (lv_at hl 0 rfl) ?_
        refine lv_sipush (v := nI 201) hx hb dX0_keepLonePoints_44 (by decide) ?_
        refine lv_icmp_ge (tgt := 62) hx hb dX0_keepLonePoints_47 (by decide) (fun c47 => ?_) (fun c47 => ?_)
        · skip
          have c47 : 201 ≤ 2 * i + 1 := (nc_le (a := 201) (b := 2 * i + 1) (by omega) (by omega)).mp c47
          omega
        · skip
          have c47 : ¬ (201 ≤ 2 * i + 1) := fun q9 => c47 ((nc_le (a := 201) (b := 2 * i + 1) (by omega) (by omega)).mpr q9)
          refine lv_aload_n hx hb dX0_keepLonePoints_50 rfl (lv_at hl 1 rfl) ?_
          refine lv_iload_n hx hb dX0_keepLonePoints_51 rfl (lv_at hl 0 rfl) ?_
          refine lv_iconst (v := nI 0) hx hb dX0_keepLonePoints_52 (by decide) ?_
          refine va_callv (va_runV (As := [.int (nI (2 * i + 1)), .int (nI 0)]) (rest := []) ⟨hx, hb, hml, hown, hts⟩ (conX0_write l D T h a (oddZ (edgZ (nI 0) f 101) i) (nI (2 * i + 1)) (nI 0) (rfl)) (cwV 2 hts gX0_keepLonePoints_X0_write rfl rfl rfl (by decide +kernel) ⟨Nat.le_of_ble_eq_true rfl, Nat.le_of_ble_eq_true rfl⟩) (preV hK hh rfl ⟨hh, ha, hne⟩) rfl rfl hl.1 rfl (lv_room (Nat.le_of_ble_eq_true rfl)) dX0_keepLonePoints_53 ⟨Nat.le_of_ble_eq_true rfl, Nat.le_of_ble_eq_true rfl⟩) hS (fun q _ h9 => (by have h8 : q = a := h9; rw [h8]; exact hA_a)) (fun q h9 => (by have h8 : q = a := h9; rw [h8]; exact hA_a)) (fun u t H1 locs1 ht hvm hw hB hz1 hk1 hS => ?_)
          try dsimp only at hB
          rw [ht] at hB
          replace hh := hh.kept (hk1 _ hh.lt (fun h9 => hne h9))
          have ha := hB
          refine lv_iinc (v := nI ((2 * i + 1) + 2)) (lv' := [(1, .int (nI ((2 * i + 1) + 2))), (0, .ref h)]) hx hb dX0_keepLonePoints_56 hl (k := 0) rfl (inc_2 _) (by decide) rfl (fun ls hl => ?_)
          refine lv_goto (tgt := 43) hx hb dX0_keepLonePoints_59 (by decide) ?_
          have e11 : nI ((2 * i + 1) + 2) = nI (2 * (i + 1) + 1) := by (first | rfl | (congr 1; omega))
          have e12 : (eN (T 0) 201 (wrZ (oddZ (edgZ (nI 0) f 101) i) (nI (2 * i + 1)) (nI 0))) = (eN (T 0) 201 (oddZ (edgZ (nI 0) f 101) (i + 1))) := by (rw [oddZ_s])
          exact hnext _ _ _ ⟨hS, lv_sub (lv_ex hl 0 rfl (congrArg Value.int e11)) [0, 1] rfl, hh, (by rw [← e12]; exact ha)⟩
      · skip
        intro H locs ls hin9
        obtain ⟨hS, hl, hh, ha⟩ := hin9
        refine lv_iload_n hx hb dX0_keepLonePoints_43 rfl (lv_at hl 0 rfl) ?_
        refine lv_sipush (v := nI 201) hx hb dX0_keepLonePoints_44 (by decide) ?_
        refine lv_icmp_ge (tgt := 62) hx hb dX0_keepLonePoints_47 (by decide) (fun c47 => ?_) (fun c47 => ?_)
        · skip
          have c47 : 201 ≤ 201 := (nc_le (a := 201) (b := 201) (by omega) (by omega)).mp c47
          exact W.vret hx hb hr (fun t ht _ => ⟨⟨(), rfl, trivial, by dsimp only; rw [ht]; exact ha⟩, hS.F ht⟩) hS.2.2 dX0_keepLonePoints_62
        · skip
          have c47 : ¬ (201 ≤ 201) := fun q9 => c47 ((nc_le (a := 201) (b := 201) (by omega) (by omega)).mpr q9)
          omega
    · skip
      have c6 : ¬ (201 ≤ 202) := fun q9 => c6 ((nc_le (a := 201) (b := 202) (by omega) (by omega)).mpr q9)
      omega

set_option maxHeartbeats 4000000 in
set_option maxRecDepth 100000 in
theorem conX0_mirror (l : Launch) (D : va_G) (T : Nat → ClassId) (h a : Nat) (f : Nat → Int32) : Met l yX0_mirror wsX0_mirror ({ frames := 1, cells := 0, slots := 0, locals := 22 }) (cP D T [.ref h] (fun H => GS D T h a f H)) (va_Qv (fun (_ : Unit) => True) (fun _ t => pAt D t.heap a (eN (T 0) 201 (mirZ f 100))) (fun q : Nat => q = a)) 0 0 (fun q : Nat => q = a) := by
  refine Met.ofW (cc := cX0_mirror) (maxL := 4) (ret := none) (by decide) rfl ?_
  intro p e s m args below meth c s₁ B hml hv9
  obtain ⟨rfl, hK, hh, ha, hne⟩ := hv9
  have hx := B.exec
  have hb := B.bytes
  have hr := B.returns
  have hts := atoms_spec (ws := wsX0_mirror) B.pre
  have hown : s.vm.findClass RX0 = some m.cls := findClass_of_methodNamed B.named
  have hlocks := B.notSynchronized
  generalize hAe : (fun q : Nat => q = a) = A
  have hA_a : A a := by subst hAe; first | rfl | exact Or.inl rfl | exact Or.inr rfl | (simp; done)
  have hS : va_S A s.heap s.heap [] := va_S.rf
  have hl := lv_entry ([.ref h]) (n := 4) (Nat.le_of_ble_eq_true rfl)
  rw [lg_entry_eq]
  generalize (lg_sl ([.ref h]) ++ List.replicate (4 - (lg_sl ([.ref h])).length) Slot.unset).toArray = ls at hl ⊢
  have hl : lv_has ls 4 [(0, .ref h)] := hl
  refine lv_iconst (v := nI 0) hx hb dX0_mirror_0 (by decide) ?_
  refine lv_istore_n (lv' := [(1, .int (nI 0)), (0, .ref h)]) hx hb dX0_mirror_1 rfl hl (by decide) rfl (fun ls hl => ?_)
  refine q_for (fun (i : Nat) (H : Heap) (locs : List Loc) (ls : Array Slot) => va_S A s.heap H locs ∧ lv_has ls 4 [(1, .int (nI i)), (0, .ref h)] ∧ pAt D H h (eO 0 [.ref a]) ∧ pAt D H a (eN (T 0) 201 (mirZ f i))) (N := 100) 0 (by omega) ?_ ?_ ?_
  · skip
    have e1 : (eN (T 0) 201 f) = (eN (T 0) 201 (mirZ f 0)) := by rfl
    exact ⟨hS, lv_sub hl [0, 1] rfl, hh, (by rw [← e1]; exact ha)⟩
  · skip
    intro i H locs ls hi9 hin9 hnext
    obtain ⟨hS, hl, hh, ha⟩ := hin9
    refine lv_iload_n hx hb dX0_mirror_2 rfl (lv_at hl 0 rfl) ?_
    refine lv_bipush (v := nI 100) hx hb dX0_mirror_3 (by decide) ?_
    refine lv_icmp_ge (tgt := 42) hx hb dX0_mirror_5 (by decide) (fun c5 => ?_) (fun c5 => ?_)
    · skip
      have c5 : 100 ≤ i := (nc_le (a := 100) (b := i) (by omega) (by omega)).mp c5
      omega
    · skip
      have c5 : ¬ (100 ≤ i) := fun q9 => c5 ((nc_le (a := 100) (b := i) (by omega) (by omega)).mpr q9)
      refine lv_sipush (v := nI 200) hx hb dX0_mirror_8 (by decide) ?_
      refine lv_iload_n hx hb dX0_mirror_11 rfl (lv_at hl 0 rfl) ?_
      refine lv_isub hx hb dX0_mirror_12 ?_
      refine lv_istore_n (lv' := [(2, .int ((nI 200) - (nI i))), (1, .int (nI i)), (0, .ref h)]) hx hb dX0_mirror_13 rfl hl (by decide) rfl (fun ls hl => ?_)
      refine lv_aload_n hx hb dX0_mirror_14 rfl (lv_at hl 2 rfl) ?_
      refine lv_iload_n hx hb dX0_mirror_15 rfl (lv_at hl 1 rfl) ?_
      refine vp_callSi (va_runV (As := [.int (nI i)]) (rest := []) ⟨hx, hb, hml, hown, hts⟩ (conX0_holds l D T h a (mirZ f i) (nI i)) (cwV 1 hts gX0_mirror_X0_holds rfl rfl rfl (by decide +kernel) ⟨Nat.le_of_ble_eq_true rfl, Nat.le_of_ble_eq_true rfl⟩) (preV hK hh rfl ⟨hh, ha, hne⟩) rfl rfl hl.1 rfl (lv_room (Nat.le_of_ble_eq_true rfl)) dX0_mirror_16 ⟨Nat.le_of_ble_eq_true rfl, Nat.le_of_ble_eq_true rfl⟩).run (fun r2 hr2 => ?_)
      subst hr2
      refine lv_istore_n (lv' := [(3, .int (holdZ (mirZ f i) (nI i))), (2, .int ((nI 200) - (nI i))), (1, .int (nI i)), (0, .ref h)]) hx hb dX0_mirror_19 rfl hl (by decide) rfl (fun ls hl => ?_)
      refine lv_aload_n hx hb dX0_mirror_20 rfl (lv_at hl 3 rfl) ?_
      refine lv_iload_n hx hb dX0_mirror_21 rfl (lv_at hl 2 rfl) ?_
      refine lv_aload_n hx hb dX0_mirror_22 rfl (lv_at hl 3 rfl) ?_
      refine lv_iload_n hx hb dX0_mirror_23 rfl (lv_at hl 1 rfl) ?_
      refine vp_callSi (va_runV (As := [.int ((nI 200) - (nI i))]) (rest := [.int (nI i), .ref h]) ⟨hx, hb, hml, hown, hts⟩ (conX0_holds l D T h a (mirZ f i) ((nI 200) - (nI i))) (cwV 1 hts gX0_mirror_X0_holds rfl rfl rfl (by decide +kernel) ⟨Nat.le_of_ble_eq_true rfl, Nat.le_of_ble_eq_true rfl⟩) (preV hK hh rfl ⟨hh, ha, hne⟩) rfl rfl hl.1 rfl (lv_room (Nat.le_of_ble_eq_true rfl)) dX0_mirror_24 ⟨Nat.le_of_ble_eq_true rfl, Nat.le_of_ble_eq_true rfl⟩).run (fun r3 hr3 => ?_)
      subst hr3
      refine va_callv (va_runV (As := [.int (nI i), .int (holdZ (mirZ f i) ((nI 200) - (nI i)))]) (rest := []) ⟨hx, hb, hml, hown, hts⟩ (conX0_write l D T h a (mirZ f i) (nI i) (holdZ (mirZ f i) ((nI 200) - (nI i))) (nar_holdZ _ _)) (cwV 2 hts gX0_mirror_X0_write rfl rfl rfl (by decide +kernel) ⟨Nat.le_of_ble_eq_true rfl, Nat.le_of_ble_eq_true rfl⟩) (preV hK hh rfl ⟨hh, ha, hne⟩) rfl rfl hl.1 rfl (lv_room (Nat.le_of_ble_eq_true rfl)) dX0_mirror_27 ⟨Nat.le_of_ble_eq_true rfl, Nat.le_of_ble_eq_true rfl⟩) hS (fun q _ h9 => (by have h8 : q = a := h9; rw [h8]; exact hA_a)) (fun q h9 => (by have h8 : q = a := h9; rw [h8]; exact hA_a)) (fun u t H1 locs1 ht hvm hw hB hz1 hk1 hS => ?_)
      try dsimp only at hB
      rw [ht] at hB
      replace hh := hh.kept (hk1 _ hh.lt (fun h9 => hne h9))
      have ha := hB
      refine lv_aload_n hx hb dX0_mirror_30 rfl (lv_at hl 3 rfl) ?_
      refine lv_iload_n hx hb dX0_mirror_31 rfl (lv_at hl 1 rfl) ?_
      refine lv_iload_n hx hb dX0_mirror_32 rfl (lv_at hl 0 rfl) ?_
      refine va_callv (va_runV (As := [.int ((nI 200) - (nI i)), .int (holdZ (mirZ f i) (nI i))]) (rest := []) ⟨hx, hb, hml, hown, hts⟩ (conX0_write l D T h a (wrZ (mirZ f i) (nI i) (holdZ (mirZ f i) ((nI 200) - (nI i)))) ((nI 200) - (nI i)) (holdZ (mirZ f i) (nI i)) (nar_holdZ _ _)) (cwV 2 hts gX0_mirror_X0_write rfl rfl rfl (by decide +kernel) ⟨Nat.le_of_ble_eq_true rfl, Nat.le_of_ble_eq_true rfl⟩) (preV hK hh rfl ⟨hh, ha, hne⟩) rfl rfl hl.1 rfl (lv_room (Nat.le_of_ble_eq_true rfl)) dX0_mirror_33 ⟨Nat.le_of_ble_eq_true rfl, Nat.le_of_ble_eq_true rfl⟩) hS (fun q _ h9 => (by have h8 : q = a := h9; rw [h8]; exact hA_a)) (fun q h9 => (by have h8 : q = a := h9; rw [h8]; exact hA_a)) (fun u t H1 locs1 ht hvm hw hB hz1 hk1 hS => ?_)
      try dsimp only at hB
      rw [ht] at hB
      replace hh := hh.kept (hk1 _ hh.lt (fun h9 => hne h9))
      have ha := hB
      refine lv_iinc (v := nI (i + 1)) (lv' := [(1, .int (nI (i + 1))), (3, .int (holdZ (mirZ f i) (nI i))), (2, .int ((nI 200) - (nI i))), (0, .ref h)]) hx hb dX0_mirror_36 hl (k := 2) rfl (inc_1 _) (by decide) rfl (fun ls hl => ?_)
      refine lv_goto (tgt := 2) hx hb dX0_mirror_39 (by decide) ?_
      have e4 : (eN (T 0) 201 (wrZ (wrZ (mirZ f i) (nI i) (holdZ (mirZ f i) ((nI 200) - (nI i)))) ((nI 200) - (nI i)) (holdZ (mirZ f i) (nI i)))) = (eN (T 0) 201 (mirZ f (i + 1))) := by (rw [mirZ_s])
      exact hnext _ _ _ ⟨hS, lv_sub hl [0, 3] rfl, hh, (by rw [← e4]; exact ha)⟩
  · skip
    intro H locs ls hin9
    obtain ⟨hS, hl, hh, ha⟩ := hin9
    refine lv_iload_n hx hb dX0_mirror_2 rfl (lv_at hl 0 rfl) ?_
    refine lv_bipush (v := nI 100) hx hb dX0_mirror_3 (by decide) ?_
    refine lv_icmp_ge (tgt := 42) hx hb dX0_mirror_5 (by decide) (fun c5 => ?_) (fun c5 => ?_)
    · skip
      have c5 : 100 ≤ 100 := (nc_le (a := 100) (b := 100) (by omega) (by omega)).mp c5
      exact W.vret hx hb hr (fun t ht _ => ⟨⟨(), rfl, trivial, by dsimp only; rw [ht]; exact ha⟩, hS.F ht⟩) hS.2.2 dX0_mirror_42
    · skip
      have c5 : ¬ (100 ≤ 100) := fun q9 => c5 ((nc_le (a := 100) (b := 100) (by omega) (by omega)).mpr q9)
      omega
end
section
set_option maxHeartbeats 4000000 in
set_option maxRecDepth 100000 in
theorem conX2_at (l : Launch) (D : va_G) (T : Nat → ClassId) (h a : Nat) (f : Nat → Int32) (g : Int32) : Met l yX2_at wsX2_at ({ frames := 0, cells := 0, slots := 0, locals := 0 }) (cP D T [.ref h, .int g] (fun H => SF D T h a f H)) (vp_Si (fun r => r = atV f g)) 0 0 (fun _ => False) := by
  refine Met.ofW (cc := cX2_at) (maxL := 2) (ret := (some .int)) (by decide) rfl ?_
  intro p e s m args below meth c s₁ B hml hv9
  obtain ⟨rfl, hK, hh, ha, hne⟩ := hv9
  have hx := B.exec
  have hb := B.bytes
  have hr := B.returns
  have hts := atoms_spec (ws := wsX2_at) B.pre
  have hown : s.vm.findClass RX2 = some m.cls := findClass_of_methodNamed B.named
  have hlocks := B.notSynchronized
  have hin2 : ∀ w ∈ wsX20, w ∈ wsX2_at := by decide +kernel
  have hl := lv_entry ([.ref h, .int g]) (n := 2) (Nat.le_of_ble_eq_true rfl)
  rw [lg_entry_eq]
  generalize (lg_sl ([.ref h, .int g]) ++ List.replicate (2 - (lg_sl ([.ref h, .int g])).length) Slot.unset).toArray = ls at hl ⊢
  have hl : lv_has ls 2 [(0, .ref h), (1, .int g)] := hl
  refine lv_iload_n hx hb dX2_at_0 rfl (lv_at hl 1 rfl) ?_
  refine lv_if_lt (tgt := 22) hx hb dX2_at_1 (by decide) (fun c1 => ?_) (fun c1 => ?_)
  · skip
    refine lv_iconst (v := nI 0) hx hb dX2_at_22 (by decide) ?_
    exact W.iret (v := nI 0) hx hb hr (fun t ht _ => ⟨nI 0, rfl, by simp [atV, c1], ht⟩) (fun q hq => absurd hq List.not_mem_nil) dX2_at_23
  · skip
    refine lv_iload_n hx hb dX2_at_4 rfl (lv_at hl 1 rfl) ?_
    refine lv_aload_n hx hb dX2_at_5 rfl (lv_at hl 0 rfl) ?_
    refine q_get (v := .ref a) hx hb hts hin2 hown hK hh rfl 0 (by decide) (hts (.fieldLink RX2 9 "PuddingstoneLine$StepFunction" "values" "[I") (by decide +kernel)) (fun _ h9 => h9) rfl dX2_at_6 ?_
    refine q_len hx hb hK 1 rfl ha dX2_at_9 ?_
    refine lv_icmp_ge (tgt := 22) hx hb dX2_at_10 (by decide) (fun c10 => ?_) (fun c10 => ?_)
    · skip
      refine lv_iconst (v := nI 0) hx hb dX2_at_22 (by decide) ?_
      exact W.iret (v := nI 0) hx hb hr (fun t ht _ => ⟨nI 0, rfl, by simp [atV, c1, c10], ht⟩) (fun q hq => absurd hq List.not_mem_nil) dX2_at_23
    · skip
      refine lv_aload_n hx hb dX2_at_13 rfl (lv_at hl 0 rfl) ?_
      refine q_get (v := .ref a) hx hb hts hin2 hown hK hh rfl 0 (by decide) (hts (.fieldLink RX2 9 "PuddingstoneLine$StepFunction" "values" "[I") (by decide +kernel)) (fun _ h9 => h9) rfl dX2_at_14 ?_
      refine lv_iload_n hx hb dX2_at_17 rfl (lv_at hl 1 rfl) ?_
      refine q_iald hx hb hK ha g.toNatClampNeg (in_eq c1) (in_lt c1 c10) (by decide) dX2_at_18 ?_
      refine lv_goto (tgt := 23) hx hb dX2_at_19 (by decide) ?_
      exact W.iret (v := f g.toNatClampNeg) hx hb hr (fun t ht _ => ⟨f g.toNatClampNeg, rfl, by simp [atV, c1, c10], ht⟩) (fun q hq => absurd hq List.not_mem_nil) dX2_at_23

set_option maxHeartbeats 4000000 in
set_option maxRecDepth 100000 in
theorem conX2_write (l : Launch) (D : va_G) (T : Nat → ClassId) (h a : Nat) (f : Nat → Int32) (g v : Int32) : Met l yX2_write wsX2_write ({ frames := 1, cells := 0, slots := 0, locals := 16 }) (cP D T [.ref h, .int g, .int v] (fun H => SF D T h a f H)) (va_Qv (fun (_ : Unit) => True) (fun _ t => pAt D t.heap a (eN (T 1) 201 (wrV f g v))) (fun q : Nat => q = a)) 0 0 (fun q : Nat => q = a) := by
  refine Met.ofW (cc := cX2_write) (maxL := 3) (ret := none) (by decide) rfl ?_
  intro p e s m args below meth c s₁ B hml hv9
  obtain ⟨rfl, hK, hh, ha, hne⟩ := hv9
  have hx := B.exec
  have hb := B.bytes
  have hr := B.returns
  have hts := atoms_spec (ws := wsX2_write) B.pre
  have hown : s.vm.findClass RX2 = some m.cls := findClass_of_methodNamed B.named
  have hlocks := B.notSynchronized
  have hin2 : ∀ w ∈ wsX20, w ∈ wsX2_write := by decide +kernel
  generalize hAe : (fun q : Nat => q = a) = A
  have hA_a : A a := by subst hAe; first | rfl | exact Or.inl rfl | exact Or.inr rfl | (simp; done)
  have hS : va_S A s.heap s.heap [] := va_S.rf
  have hl := lv_entry ([.ref h, .int g, .int v]) (n := 3) (Nat.le_of_ble_eq_true rfl)
  rw [lg_entry_eq]
  generalize (lg_sl ([.ref h, .int g, .int v]) ++ List.replicate (3 - (lg_sl ([.ref h, .int g, .int v])).length) Slot.unset).toArray = ls at hl ⊢
  have hl : lv_has ls 3 [(0, .ref h), (1, .int g), (2, .int v)] := hl
  refine lv_iload_n hx hb dX2_write_0 rfl (lv_at hl 1 rfl) ?_
  refine lv_if_lt (tgt := 32) hx hb dX2_write_1 (by decide) (fun c1 => ?_) (fun c1 => ?_)
  · skip
    exact W.vret hx hb hr (fun t ht _ => ⟨⟨(), rfl, trivial, by dsimp only; rw [ht]; exact (by simp only [wrV, c1, if_true, if_false]; exact ha)⟩, hS.F ht⟩) hS.2.2 dX2_write_32
  · skip
    refine lv_iload_n hx hb dX2_write_4 rfl (lv_at hl 1 rfl) ?_
    refine lv_aload_n hx hb dX2_write_5 rfl (lv_at hl 0 rfl) ?_
    refine q_get (v := .ref a) hx hb hts hin2 hown hK hh rfl 0 (by decide) (hts (.fieldLink RX2 9 "PuddingstoneLine$StepFunction" "values" "[I") (by decide +kernel)) (fun _ h9 => h9) rfl dX2_write_6 ?_
    refine q_len hx hb hK 1 rfl ha dX2_write_9 ?_
    refine lv_icmp_ge (tgt := 32) hx hb dX2_write_10 (by decide) (fun c10 => ?_) (fun c10 => ?_)
    · skip
      exact W.vret hx hb hr (fun t ht _ => ⟨⟨(), rfl, trivial, by dsimp only; rw [ht]; exact (by simp only [wrV, c1, c10, if_true, if_false]; exact ha)⟩, hS.F ht⟩) hS.2.2 dX2_write_32
    · skip
      refine lv_aload_n hx hb dX2_write_13 rfl (lv_at hl 0 rfl) ?_
      refine q_get (v := .ref a) hx hb hts hin2 hown hK hh rfl 0 (by decide) (hts (.fieldLink RX2 9 "PuddingstoneLine$StepFunction" "values" "[I") (by decide +kernel)) (fun _ h9 => h9) rfl dX2_write_14 ?_
      refine lv_iload_n hx hb dX2_write_17 rfl (lv_at hl 1 rfl) ?_
      refine lv_sipush (v := (-10000)) hx hb dX2_write_18 (by decide) ?_
      refine lv_sipush (v := nI 10000) hx hb dX2_write_21 (by decide) ?_
      refine lv_iload_n hx hb dX2_write_24 rfl (lv_at hl 2 rfl) ?_
      refine va_mmin hx hb (hml.trans hl.1.symm) hown (hts (.methodLink RX2 15 Lib.Math.min.name) (by decide +kernel)) (hts (.static Lib.Math.min.name) (by decide +kernel)) (hts (.initialized "java/lang/Math") (by decide +kernel)) (hts (.code Lib.Math.min.name Lib.Math.min.code 2 (some .int)) (by decide +kernel)) (Nat.le_of_ble_eq_true rfl) (Nat.le_of_ble_eq_true rfl) (Nat.le_of_ble_eq_true rfl) (Nat.le_of_ble_eq_true rfl) dX2_write_25 ?_
      refine va_mmax hx hb (hml.trans hl.1.symm) hown (hts (.methodLink RX2 21 Lib.Math.max.name) (by decide +kernel)) (hts (.static Lib.Math.max.name) (by decide +kernel)) (hts (.initialized "java/lang/Math") (by decide +kernel)) (hts (.code Lib.Math.max.name Lib.Math.max.code 2 (some .int)) (by decide +kernel)) (Nat.le_of_ble_eq_true rfl) (Nat.le_of_ble_eq_true rfl) (Nat.le_of_ble_eq_true rfl) (Nat.le_of_ble_eq_true rfl) dX2_write_28 ?_
      refine q_iast hx hb hK ha g.toNatClampNeg (in_eq c1) (in_lt c1 c10) (by decide) hS (hA_a) dX2_write_31 (fun H1 locs1 hw hz oq hS => ?_)
      replace hh := hh.ne oq (hne)
      have ha := hw
      exact W.vret hx hb hr (fun t ht _ => ⟨⟨(), rfl, trivial, by dsimp only; rw [ht]; exact (by simp only [wrV, c1, c10, if_true, if_false]; exact ha)⟩, hS.F ht⟩) hS.2.2 dX2_write_32

set_option maxHeartbeats 4000000 in
set_option maxRecDepth 100000 in
theorem conX2_copyFrom (l : Launch) (D : va_G) (T : Nat → ClassId) (h a : Nat) (f : Nat → Int32) (h2 a2 : Nat) (g : Nat → Int32) : Met l yX2_copyFrom wsX2_copyFrom ({ frames := 2, cells := 0, slots := 0, locals := 38 }) (cP D T [.ref h, .ref h2] (fun H => SF D T h a f H ∧ SF D T h2 a2 g H ∧ h2 ≠ a ∧ a2 ≠ a)) (va_Qv (fun (_ : Unit) => True) (fun _ t => pAt D t.heap a (eN (T 1) 201 (copyV f g 201))) (fun q : Nat => q = a)) 0 0 (fun q : Nat => q = a) := by
  refine Met.ofW (cc := cX2_copyFrom) (maxL := 3) (ret := none) (by decide) rfl ?_
  intro p e s m args below meth c s₁ B hml hv9
  obtain ⟨rfl, hK, ⟨hh, ha, hne⟩, ⟨gh, ga, gne⟩, hn2, hn3⟩ := hv9
  have hx := B.exec
  have hb := B.bytes
  have hr := B.returns
  have hts := atoms_spec (ws := wsX2_copyFrom) B.pre
  have hown : s.vm.findClass RX2 = some m.cls := findClass_of_methodNamed B.named
  have hlocks := B.notSynchronized
  generalize hAe : (fun q : Nat => q = a) = A
  have hA_a : A a := by subst hAe; first | rfl | exact Or.inl rfl | exact Or.inr rfl | (simp; done)
  have hS : va_S A s.heap s.heap [] := va_S.rf
  have hl := lv_entry ([.ref h, .ref h2]) (n := 3) (Nat.le_of_ble_eq_true rfl)
  rw [lg_entry_eq]
  generalize (lg_sl ([.ref h, .ref h2]) ++ List.replicate (3 - (lg_sl ([.ref h, .ref h2])).length) Slot.unset).toArray = ls at hl ⊢
  have hl : lv_has ls 3 [(0, .ref h), (1, .ref h2)] := hl
  refine lv_iconst (v := nI 0) hx hb dX2_copyFrom_0 (by decide) ?_
  refine lv_istore_n (lv' := [(2, .int (nI 0)), (0, .ref h), (1, .ref h2)]) hx hb dX2_copyFrom_1 rfl hl (by decide) rfl (fun ls hl => ?_)
  refine q_for (fun (i : Nat) (H : Heap) (locs : List Loc) (ls : Array Slot) => va_S A s.heap H locs ∧ lv_has ls 3 [(2, .int (nI i)), (0, .ref h), (1, .ref h2)] ∧ pAt D H h (eO 2 [.ref a]) ∧ pAt D H a (eN (T 1) 201 (copyV f g i)) ∧ pAt D H h2 (eO 2 [.ref a2]) ∧ pAt D H a2 (eN (T 1) 201 g)) (N := 201) 0 (by omega) ?_ ?_ ?_
  · skip
    have e1 : (eN (T 1) 201 f) = (eN (T 1) 201 (copyV f g 0)) := by rfl
    exact ⟨hS, lv_sub hl [0, 1, 2] rfl, hh, (by rw [← e1]; exact ha), gh, ga⟩
  · skip
    intro i H locs ls hi9 hin9 hnext
    obtain ⟨hS, hl, hh, ha, gh, ga⟩ := hin9
    refine lv_iload_n hx hb dX2_copyFrom_2 rfl (lv_at hl 0 rfl) ?_
    refine lv_sipush (v := nI 201) hx hb dX2_copyFrom_3 (by decide) ?_
    refine lv_icmp_ge (tgt := 25) hx hb dX2_copyFrom_6 (by decide) (fun c6 => ?_) (fun c6 => ?_)
    · skip
      have c6 : 201 ≤ i := (nc_le (a := 201) (b := i) (by omega) (by omega)).mp c6
      omega
    · skip
      have c6 : ¬ (201 ≤ i) := fun q9 => c6 ((nc_le (a := 201) (b := i) (by omega) (by omega)).mpr q9)
      refine lv_aload_n hx hb dX2_copyFrom_9 rfl (lv_at hl 1 rfl) ?_
      refine lv_iload_n hx hb dX2_copyFrom_10 rfl (lv_at hl 0 rfl) ?_
      refine lv_aload_n hx hb dX2_copyFrom_11 rfl (lv_at hl 2 rfl) ?_
      refine lv_iload_n hx hb dX2_copyFrom_12 rfl (lv_at hl 0 rfl) ?_
      refine vp_callSi (va_runV (As := [.int (nI i)]) (rest := [.int (nI i), .ref h]) ⟨hx, hb, hml, hown, hts⟩ (conX2_at l D T h2 a2 g (nI i)) (cwV 1 hts gX2_copyFrom_X2_at rfl rfl rfl (by decide +kernel) ⟨Nat.le_of_ble_eq_true rfl, Nat.le_of_ble_eq_true rfl⟩) (preV hK gh rfl ⟨gh, ga, gne⟩) rfl rfl hl.1 rfl (lv_room (Nat.le_of_ble_eq_true rfl)) dX2_copyFrom_13 ⟨Nat.le_of_ble_eq_true rfl, Nat.le_of_ble_eq_true rfl⟩).run (fun r2 hr2 => ?_)
      subst hr2
      refine va_callv (va_runV (As := [.int (nI i), .int (atV g (nI i))]) (rest := []) ⟨hx, hb, hml, hown, hts⟩ (conX2_write l D T h a (copyV f g i) (nI i) (atV g (nI i))) (cwV 2 hts gX2_copyFrom_X2_write rfl rfl rfl (by decide +kernel) ⟨Nat.le_of_ble_eq_true rfl, Nat.le_of_ble_eq_true rfl⟩) (preV hK hh rfl ⟨hh, ha, hne⟩) rfl rfl hl.1 rfl (lv_room (Nat.le_of_ble_eq_true rfl)) dX2_copyFrom_16 ⟨Nat.le_of_ble_eq_true rfl, Nat.le_of_ble_eq_true rfl⟩) hS (fun q _ h9 => (by have h8 : q = a := h9; rw [h8]; exact hA_a)) (fun q h9 => (by have h8 : q = a := h9; rw [h8]; exact hA_a)) (fun u t H1 locs1 ht hvm hw hB hz1 hk1 hS => ?_)
      try dsimp only at hB
      rw [ht] at hB
      replace hh := hh.kept (hk1 _ hh.lt (fun h9 => hne h9))
      replace gh := gh.kept (hk1 _ gh.lt (fun h9 => hn2 h9))
      replace ga := ga.kept (hk1 _ ga.lt (fun h9 => hn3 h9))
      have ha := hB
      refine lv_iinc (v := nI (i + 1)) (lv' := [(2, .int (nI (i + 1))), (0, .ref h), (1, .ref h2)]) hx hb dX2_copyFrom_19 hl (k := 0) rfl (inc_1 _) (by decide) rfl (fun ls hl => ?_)
      refine lv_goto (tgt := 2) hx hb dX2_copyFrom_22 (by decide) ?_
      have e3 : (eN (T 1) 201 (wrV (copyV f g i) (nI i) (atV g (nI i)))) = (eN (T 1) 201 (copyV f g (i + 1))) := by (rw [copyV_s])
      exact hnext _ _ _ ⟨hS, lv_sub hl [0, 1, 2] rfl, hh, (by rw [← e3]; exact ha), gh, ga⟩
  · skip
    intro H locs ls hin9
    obtain ⟨hS, hl, hh, ha, gh, ga⟩ := hin9
    refine lv_iload_n hx hb dX2_copyFrom_2 rfl (lv_at hl 0 rfl) ?_
    refine lv_sipush (v := nI 201) hx hb dX2_copyFrom_3 (by decide) ?_
    refine lv_icmp_ge (tgt := 25) hx hb dX2_copyFrom_6 (by decide) (fun c6 => ?_) (fun c6 => ?_)
    · skip
      have c6 : 201 ≤ 201 := (nc_le (a := 201) (b := 201) (by omega) (by omega)).mp c6
      exact W.vret hx hb hr (fun t ht _ => ⟨⟨(), rfl, trivial, by dsimp only; rw [ht]; exact ha⟩, hS.F ht⟩) hS.2.2 dX2_copyFrom_25
    · skip
      have c6 : ¬ (201 ≤ 201) := fun q9 => c6 ((nc_le (a := 201) (b := 201) (by omega) (by omega)).mpr q9)
      omega

set_option maxHeartbeats 4000000 in
set_option maxRecDepth 100000 in
theorem conX2_steps (l : Launch) (D : va_G) (T : Nat → ClassId) (h a : Nat) (f : Nat → Int32) : Met l yX2_steps wsX2_steps ({ frames := 1, cells := 0, slots := 0, locals := 21 }) (cP D T [.ref h] (fun H => SF D T h a f H)) (vp_Si (fun r => r = stepsV f 200)) 0 0 (fun _ => False) := by
  refine Met.ofW (cc := cX2_steps) (maxL := 3) (ret := (some .int)) (by decide) rfl ?_
  intro p e s m args below meth c s₁ B hml hv9
  obtain ⟨rfl, hK, hh, ha, hne⟩ := hv9
  have hx := B.exec
  have hb := B.bytes
  have hr := B.returns
  have hts := atoms_spec (ws := wsX2_steps) B.pre
  have hown : s.vm.findClass RX2 = some m.cls := findClass_of_methodNamed B.named
  have hlocks := B.notSynchronized
  have hl := lv_entry ([.ref h]) (n := 3) (Nat.le_of_ble_eq_true rfl)
  rw [lg_entry_eq]
  generalize (lg_sl ([.ref h]) ++ List.replicate (3 - (lg_sl ([.ref h])).length) Slot.unset).toArray = ls at hl ⊢
  have hl : lv_has ls 3 [(0, .ref h)] := hl
  refine lv_iconst (v := nI 1) hx hb dX2_steps_0 (by decide) ?_
  refine lv_istore_n (lv' := [(1, .int (nI 1)), (0, .ref h)]) hx hb dX2_steps_1 rfl hl (by decide) rfl (fun ls hl => ?_)
  refine lv_iconst (v := nI 1) hx hb dX2_steps_2 (by decide) ?_
  refine lv_istore_n (lv' := [(2, .int (nI 1)), (1, .int (nI 1)), (0, .ref h)]) hx hb dX2_steps_3 rfl hl (by decide) rfl (fun ls hl => ?_)
  refine q_for (fun (i : Nat) (H : Heap) (locs : List Loc) (ls : Array Slot) => H = s.heap ∧ locs = [] ∧ lv_has ls 3 [(2, .int (nI (i + 1))), (1, .int (stepsV f i)), (0, .ref h)]) (N := 200) 0 (by omega) ?_ ?_ ?_
  · skip
    have e1 : nI 1 = stepsV f 0 := by rfl
    exact ⟨rfl, rfl, lv_sub (lv_ex hl 1 rfl (congrArg Value.int e1)) [0, 1, 2] rfl⟩
  · skip
    intro i H locs ls hi9 hin9 hnext
    obtain ⟨rfl, rfl, hl⟩ := hin9
    refine lv_iload_n hx hb dX2_steps_4 rfl (lv_at hl 0 rfl) ?_
    refine lv_sipush (v := nI 201) hx hb dX2_steps_5 (by decide) ?_
    refine lv_icmp_ge (tgt := 35) hx hb dX2_steps_8 (by decide) (fun c8 => ?_) (fun c8 => ?_)
    · skip
      have c8 : 201 ≤ i + 1 := (nc_le (a := 201) (b := i + 1) (by omega) (by omega)).mp c8
      omega
    · skip
      have c8 : ¬ (201 ≤ i + 1) := fun q9 => c8 ((nc_le (a := 201) (b := i + 1) (by omega) (by omega)).mpr q9)
      refine lv_aload_n hx hb dX2_steps_11 rfl (lv_at hl 2 rfl) ?_
      refine lv_iload_n hx hb dX2_steps_12 rfl (lv_at hl 0 rfl) ?_
      refine vp_callSi (va_runV (As := [.int (nI (i + 1))]) (rest := []) ⟨hx, hb, hml, hown, hts⟩ (conX2_at l D T h a f (nI (i + 1))) (cwV 1 hts gX2_steps_X2_at rfl rfl rfl (by decide +kernel) ⟨Nat.le_of_ble_eq_true rfl, Nat.le_of_ble_eq_true rfl⟩) (preV hK hh rfl ⟨hh, ha, hne⟩) rfl rfl hl.1 rfl (lv_room (Nat.le_of_ble_eq_true rfl)) dX2_steps_13 ⟨Nat.le_of_ble_eq_true rfl, Nat.le_of_ble_eq_true rfl⟩).run (fun r2 hr2 => ?_)
      subst hr2
      refine lv_aload_n hx hb dX2_steps_16 rfl (lv_at hl 2 rfl) ?_
      refine lv_iload_n hx hb dX2_steps_17 rfl (lv_at hl 0 rfl) ?_
      refine lv_iconst (v := nI 1) hx hb dX2_steps_18 (by decide) ?_
      refine lv_isub hx hb dX2_steps_19 ?_
      refine vp_callSi (va_runV (As := [.int ((nI (i + 1)) - (nI 1))]) (rest := [.int (atV f (nI (i + 1)))]) ⟨hx, hb, hml, hown, hts⟩ (conX2_at l D T h a f ((nI (i + 1)) - (nI 1))) (cwV 1 hts gX2_steps_X2_at rfl rfl rfl (by decide +kernel) ⟨Nat.le_of_ble_eq_true rfl, Nat.le_of_ble_eq_true rfl⟩) (preV hK hh rfl ⟨hh, ha, hne⟩) rfl rfl hl.1 rfl (lv_room (Nat.le_of_ble_eq_true rfl)) dX2_steps_20 ⟨Nat.le_of_ble_eq_true rfl, Nat.le_of_ble_eq_true rfl⟩).run (fun r3 hr3 => ?_)
      subst hr3
      refine lv_icmp_eq (tgt := 29) hx hb dX2_steps_23 (by decide) (fun c23 => ?_) (fun c23 => ?_)
      · skip
        refine lv_iinc (v := nI (i + 1 + 1)) (lv' := [(2, .int (nI (i + 1 + 1))), (1, .int (stepsV f i)), (0, .ref h)]) hx hb dX2_steps_29 hl (k := 0) rfl (inc_1 _) (by decide) rfl (fun ls hl => ?_)
        refine lv_goto (tgt := 4) hx hb dX2_steps_32 (by decide) ?_
        have e4 : nI (i + 1 + 1) = nI ((i + 1) + 1) := by rfl
        have e5 : stepsV f i = stepsV f (i + 1) := by first | (rw [stepsV_s, if_pos c23]; done) | (rw [stepsV_s, if_neg c23]; done)
        exact hnext _ _ _ ⟨rfl, rfl, lv_sub (lv_ex (lv_ex hl 0 rfl (congrArg Value.int e4)) 1 rfl (congrArg Value.int e5)) [0, 1, 2] rfl⟩
      · skip
        refine lv_iinc (v := (stepsV f i) + 1) (lv' := [(1, .int ((stepsV f i) + 1)), (2, .int (nI (i + 1))), (0, .ref h)]) hx hb dX2_steps_26 hl (k := 1) rfl (rfl) (by decide) rfl (fun ls hl => ?_)
        refine lv_iinc (v := nI (i + 1 + 1)) (lv' := [(2, .int (nI (i + 1 + 1))), (1, .int ((stepsV f i) + 1)), (0, .ref h)]) hx hb dX2_steps_29 hl (k := 1) rfl (inc_1 _) (by decide) rfl (fun ls hl => ?_)
        refine lv_goto (tgt := 4) hx hb dX2_steps_32 (by decide) ?_
        have e6 : nI (i + 1 + 1) = nI ((i + 1) + 1) := by rfl
        have e7 : (stepsV f i) + 1 = stepsV f (i + 1) := by first | (rw [stepsV_s, if_pos c23]; done) | (rw [stepsV_s, if_neg c23]; done)
        exact hnext _ _ _ ⟨rfl, rfl, lv_sub (lv_ex (lv_ex hl 0 rfl (congrArg Value.int e6)) 1 rfl (congrArg Value.int e7)) [0, 1, 2] rfl⟩
  · skip
    intro H locs ls hin9
    obtain ⟨rfl, rfl, hl⟩ := hin9
    refine lv_iload_n hx hb dX2_steps_4 rfl (lv_at hl 0 rfl) ?_
    refine lv_sipush (v := nI 201) hx hb dX2_steps_5 (by decide) ?_
    refine lv_icmp_ge (tgt := 35) hx hb dX2_steps_8 (by decide) (fun c8 => ?_) (fun c8 => ?_)
    · skip
      have c8 : 201 ≤ 201 := (nc_le (a := 201) (b := 201) (by omega) (by omega)).mp c8
      refine lv_iload_n hx hb dX2_steps_35 rfl (lv_at hl 1 rfl) ?_
      exact W.iret (v := stepsV f 200) hx hb hr (fun t ht _ => ⟨stepsV f 200, rfl, by rfl, ht⟩) (fun q hq => absurd hq List.not_mem_nil) dX2_steps_36
    · skip
      have c8 : ¬ (201 ≤ 201) := fun q9 => c8 ((nc_le (a := 201) (b := 201) (by omega) (by omega)).mpr q9)
      omega

set_option maxHeartbeats 4000000 in
set_option maxRecDepth 100000 in
theorem conX2_greatest (l : Launch) (D : va_G) (T : Nat → ClassId) (h a : Nat) (f : Nat → Int32) (lo hi : Nat) (first last : Int32) (hlo : lo < 2 ^ 30) (hhi : hi < 2 ^ 30) (hfi : jmax first (nI 0) = nI lo) (hla : last.toInt + 1 = (hi : Int)) : Met l yX2_greatest wsX2_greatest ({ frames := 1, cells := 0, slots := 0, locals := 21 }) (cP D T [.ref h, .int first, .int last] (fun H => SF D T h a f H)) (vp_Si (fun r => r = grtV f lo (min hi 201 - lo))) 0 0 (fun _ => False) := by
  refine Met.ofW (cc := cX2_greatest) (maxL := 5) (ret := (some .int)) (by decide) rfl ?_
  intro p e s m args below meth c s₁ B hml hv9
  obtain ⟨rfl, hK, hh, ha, hne⟩ := hv9
  have hx := B.exec
  have hb := B.bytes
  have hr := B.returns
  have hts := atoms_spec (ws := wsX2_greatest) B.pre
  have hown : s.vm.findClass RX2 = some m.cls := findClass_of_methodNamed B.named
  have hlocks := B.notSynchronized
  have hl := lv_entry ([.ref h, .int first, .int last]) (n := 5) (Nat.le_of_ble_eq_true rfl)
  rw [lg_entry_eq]
  generalize (lg_sl ([.ref h, .int first, .int last]) ++ List.replicate (5 - (lg_sl ([.ref h, .int first, .int last])).length) Slot.unset).toArray = ls at hl ⊢
  have hl : lv_has ls 5 [(0, .ref h), (1, .int first), (2, .int last)] := hl
  refine lv_sipush (v := (-10000)) hx hb dX2_greatest_0 (by decide) ?_
  refine lv_istore_n (lv' := [(3, .int (-10000)), (0, .ref h), (1, .int first), (2, .int last)]) hx hb dX2_greatest_3 rfl hl (by decide) rfl (fun ls hl => ?_)
  refine lv_iload_n hx hb dX2_greatest_4 rfl (lv_at hl 2 rfl) ?_
  refine lv_iconst (v := nI 0) hx hb dX2_greatest_5 (by decide) ?_
  refine va_mmax hx hb (hml.trans hl.1.symm) hown (hts (.methodLink RX2 21 Lib.Math.max.name) (by decide +kernel)) (hts (.static Lib.Math.max.name) (by decide +kernel)) (hts (.initialized "java/lang/Math") (by decide +kernel)) (hts (.code Lib.Math.max.name Lib.Math.max.code 2 (some .int)) (by decide +kernel)) (Nat.le_of_ble_eq_true rfl) (Nat.le_of_ble_eq_true rfl) (Nat.le_of_ble_eq_true rfl) (Nat.le_of_ble_eq_true rfl) dX2_greatest_6 ?_
  refine lv_istore (lv' := [(4, .int (jmax first (nI 0))), (3, .int (-10000)), (0, .ref h), (1, .int first), (2, .int last)]) hx hb dX2_greatest_9 hl (by decide) rfl (fun ls hl => ?_)
  refine q_for (fun (i : Nat) (H : Heap) (locs : List Loc) (ls : Array Slot) => H = s.heap ∧ locs = [] ∧ lv_has ls 5 [(4, .int (nI (lo + i))), (3, .int (grtV f lo i)), (0, .ref h), (1, .int first), (2, .int last)]) (N := (min hi 201 - lo)) 0 (by omega) ?_ ?_ ?_
  · skip
    have e1 : jmax first (nI 0) = nI (lo + 0) := by exact hfi
    have e2 : (-10000) = grtV f lo 0 := by rfl
    exact ⟨rfl, rfl, lv_sub (lv_ex (lv_ex hl 0 rfl (congrArg Value.int e1)) 1 rfl (congrArg Value.int e2)) [0, 1, 2, 3, 4] rfl⟩
  · skip
    intro i H locs ls hi9 hin9 hnext
    obtain ⟨rfl, rfl, hl⟩ := hin9
    refine lv_iload hx hb dX2_greatest_11 (lv_at hl 0 rfl) ?_
    refine lv_iload_n hx hb dX2_greatest_13 rfl (lv_at hl 4 rfl) ?_
    refine lv_icmp_gt (tgt := 42) hx hb dX2_greatest_14 (by decide) (fun c14 => ?_) (fun c14 => ?_)
    · skip
      have c14 : hi ≤ lo + i := (lt_pred hla (by omega)).mp c14
      omega
    · skip
      have c14 : ¬ (hi ≤ lo + i) := fun q9 => c14 ((lt_pred hla (by omega)).mpr q9)
      refine lv_iload hx hb dX2_greatest_17 (lv_at hl 0 rfl) ?_
      refine lv_sipush (v := nI 201) hx hb dX2_greatest_19 (by decide) ?_
      refine lv_icmp_ge (tgt := 42) hx hb dX2_greatest_22 (by decide) (fun c22 => ?_) (fun c22 => ?_)
      · skip
        have c22 : 201 ≤ lo + i := (nc_le (a := 201) (b := lo + i) (by omega) (by omega)).mp c22
        omega
      · skip
        have c22 : ¬ (201 ≤ lo + i) := fun q9 => c22 ((nc_le (a := 201) (b := lo + i) (by omega) (by omega)).mpr q9)
        refine lv_iload_n hx hb dX2_greatest_25 rfl (lv_at hl 1 rfl) ?_
        refine lv_aload_n hx hb dX2_greatest_26 rfl (lv_at hl 2 rfl) ?_
        refine lv_iload hx hb dX2_greatest_27 (lv_at hl 0 rfl) ?_
        refine vp_callSi (va_runV (As := [.int (nI (lo + i))]) (rest := [.int (grtV f lo i)]) ⟨hx, hb, hml, hown, hts⟩ (conX2_at l D T h a f (nI (lo + i))) (cwV 1 hts gX2_greatest_X2_at rfl rfl rfl (by decide +kernel) ⟨Nat.le_of_ble_eq_true rfl, Nat.le_of_ble_eq_true rfl⟩) (preV hK hh rfl ⟨hh, ha, hne⟩) rfl rfl hl.1 rfl (lv_room (Nat.le_of_ble_eq_true rfl)) dX2_greatest_29 ⟨Nat.le_of_ble_eq_true rfl, Nat.le_of_ble_eq_true rfl⟩).run (fun r3 hr3 => ?_)
        subst hr3
        refine va_mmax hx hb (hml.trans hl.1.symm) hown (hts (.methodLink RX2 21 Lib.Math.max.name) (by decide +kernel)) (hts (.static Lib.Math.max.name) (by decide +kernel)) (hts (.initialized "java/lang/Math") (by decide +kernel)) (hts (.code Lib.Math.max.name Lib.Math.max.code 2 (some .int)) (by decide +kernel)) (Nat.le_of_ble_eq_true rfl) (Nat.le_of_ble_eq_true rfl) (Nat.le_of_ble_eq_true rfl) (Nat.le_of_ble_eq_true rfl) dX2_greatest_32 ?_
        refine lv_istore_n (lv' := [(3, .int (jmax (grtV f lo i) (atV f (nI (lo + i))))), (4, .int (nI (lo + i))), (0, .ref h), (1, .int first), (2, .int last)]) hx hb dX2_greatest_35 rfl hl (by decide) rfl (fun ls hl => ?_)
        refine lv_iinc (v := nI (lo + i + 1)) (lv' := [(4, .int (nI (lo + i + 1))), (3, .int (jmax (grtV f lo i) (atV f (nI (lo + i))))), (0, .ref h), (1, .int first), (2, .int last)]) hx hb dX2_greatest_36 hl (k := 1) rfl (inc_1 _) (by decide) rfl (fun ls hl => ?_)
        refine lv_goto (tgt := 11) hx hb dX2_greatest_39 (by decide) ?_
        have e4 : nI (lo + i + 1) = nI (lo + (i + 1)) := by rfl
        have e5 : jmax (grtV f lo i) (atV f (nI (lo + i))) = grtV f lo (i + 1) := by (rw [grtV_s])
        exact hnext _ _ _ ⟨rfl, rfl, lv_sub (lv_ex (lv_ex hl 0 rfl (congrArg Value.int e4)) 1 rfl (congrArg Value.int e5)) [0, 1, 2, 3, 4] rfl⟩
  · skip
    intro H locs ls hin9
    obtain ⟨rfl, rfl, hl⟩ := hin9
    refine lv_iload hx hb dX2_greatest_11 (lv_at hl 0 rfl) ?_
    refine lv_iload_n hx hb dX2_greatest_13 rfl (lv_at hl 4 rfl) ?_
    refine lv_icmp_gt (tgt := 42) hx hb dX2_greatest_14 (by decide) (fun c14 => ?_) (fun c14 => ?_)
    · skip
      have c14 : hi ≤ lo + (min hi 201 - lo) := (lt_pred hla (by omega)).mp c14
      refine lv_iload_n hx hb dX2_greatest_42 rfl (lv_at hl 1 rfl) ?_
      exact W.iret (v := grtV f lo (min hi 201 - lo)) hx hb hr (fun t ht _ => ⟨grtV f lo (min hi 201 - lo), rfl, by rfl, ht⟩) (fun q hq => absurd hq List.not_mem_nil) dX2_greatest_43
    · skip
      have c14 : ¬ (hi ≤ lo + (min hi 201 - lo)) := fun q9 => c14 ((lt_pred hla (by omega)).mpr q9)
      refine lv_iload hx hb dX2_greatest_17 (lv_at hl 0 rfl) ?_
      refine lv_sipush (v := nI 201) hx hb dX2_greatest_19 (by decide) ?_
      refine lv_icmp_ge (tgt := 42) hx hb dX2_greatest_22 (by decide) (fun c22 => ?_) (fun c22 => ?_)
      · skip
        have c22 : 201 ≤ lo + (min hi 201 - lo) := (nc_le (a := 201) (b := lo + (min hi 201 - lo)) (by omega) (by omega)).mp c22
        refine lv_iload_n hx hb dX2_greatest_42 rfl (lv_at hl 1 rfl) ?_
        exact W.iret (v := grtV f lo (min hi 201 - lo)) hx hb hr (fun t ht _ => ⟨grtV f lo (min hi 201 - lo), rfl, by rfl, ht⟩) (fun q hq => absurd hq List.not_mem_nil) dX2_greatest_43
      · skip
        have c22 : ¬ (201 ≤ lo + (min hi 201 - lo)) := fun q9 => c22 ((nc_le (a := 201) (b := lo + (min hi 201 - lo)) (by omega) (by omega)).mpr q9)
        omega

set_option maxHeartbeats 4000000 in
set_option maxRecDepth 100000 in
theorem conX2_least (l : Launch) (D : va_G) (T : Nat → ClassId) (h a : Nat) (f : Nat → Int32) (lo hi : Nat) (first last : Int32) (hlo : lo < 2 ^ 30) (hhi : hi < 2 ^ 30) (hfi : jmax first (nI 0) = nI lo) (hla : last.toInt + 1 = (hi : Int)) : Met l yX2_least wsX2_least ({ frames := 1, cells := 0, slots := 0, locals := 21 }) (cP D T [.ref h, .int first, .int last] (fun H => SF D T h a f H)) (vp_Si (fun r => r = lstV f lo (min hi 201 - lo))) 0 0 (fun _ => False) := by
  refine Met.ofW (cc := cX2_least) (maxL := 5) (ret := (some .int)) (by decide) rfl ?_
  intro p e s m args below meth c s₁ B hml hv9
  obtain ⟨rfl, hK, hh, ha, hne⟩ := hv9
  have hx := B.exec
  have hb := B.bytes
  have hr := B.returns
  have hts := atoms_spec (ws := wsX2_least) B.pre
  have hown : s.vm.findClass RX2 = some m.cls := findClass_of_methodNamed B.named
  have hlocks := B.notSynchronized
  have hl := lv_entry ([.ref h, .int first, .int last]) (n := 5) (Nat.le_of_ble_eq_true rfl)
  rw [lg_entry_eq]
  generalize (lg_sl ([.ref h, .int first, .int last]) ++ List.replicate (5 - (lg_sl ([.ref h, .int first, .int last])).length) Slot.unset).toArray = ls at hl ⊢
  have hl : lv_has ls 5 [(0, .ref h), (1, .int first), (2, .int last)] := hl
  refine lv_sipush (v := nI 10000) hx hb dX2_least_0 (by decide) ?_
  refine lv_istore_n (lv' := [(3, .int (nI 10000)), (0, .ref h), (1, .int first), (2, .int last)]) hx hb dX2_least_3 rfl hl (by decide) rfl (fun ls hl => ?_)
  refine lv_iload_n hx hb dX2_least_4 rfl (lv_at hl 2 rfl) ?_
  refine lv_iconst (v := nI 0) hx hb dX2_least_5 (by decide) ?_
  refine va_mmax hx hb (hml.trans hl.1.symm) hown (hts (.methodLink RX2 21 Lib.Math.max.name) (by decide +kernel)) (hts (.static Lib.Math.max.name) (by decide +kernel)) (hts (.initialized "java/lang/Math") (by decide +kernel)) (hts (.code Lib.Math.max.name Lib.Math.max.code 2 (some .int)) (by decide +kernel)) (Nat.le_of_ble_eq_true rfl) (Nat.le_of_ble_eq_true rfl) (Nat.le_of_ble_eq_true rfl) (Nat.le_of_ble_eq_true rfl) dX2_least_6 ?_
  refine lv_istore (lv' := [(4, .int (jmax first (nI 0))), (3, .int (nI 10000)), (0, .ref h), (1, .int first), (2, .int last)]) hx hb dX2_least_9 hl (by decide) rfl (fun ls hl => ?_)
  refine q_for (fun (i : Nat) (H : Heap) (locs : List Loc) (ls : Array Slot) => H = s.heap ∧ locs = [] ∧ lv_has ls 5 [(4, .int (nI (lo + i))), (3, .int (lstV f lo i)), (0, .ref h), (1, .int first), (2, .int last)]) (N := (min hi 201 - lo)) 0 (by omega) ?_ ?_ ?_
  · skip
    have e1 : jmax first (nI 0) = nI (lo + 0) := by exact hfi
    have e2 : nI 10000 = lstV f lo 0 := by rfl
    exact ⟨rfl, rfl, lv_sub (lv_ex (lv_ex hl 0 rfl (congrArg Value.int e1)) 1 rfl (congrArg Value.int e2)) [0, 1, 2, 3, 4] rfl⟩
  · skip
    intro i H locs ls hi9 hin9 hnext
    obtain ⟨rfl, rfl, hl⟩ := hin9
    refine lv_iload hx hb dX2_least_11 (lv_at hl 0 rfl) ?_
    refine lv_iload_n hx hb dX2_least_13 rfl (lv_at hl 4 rfl) ?_
    refine lv_icmp_gt (tgt := 42) hx hb dX2_least_14 (by decide) (fun c14 => ?_) (fun c14 => ?_)
    · skip
      have c14 : hi ≤ lo + i := (lt_pred hla (by omega)).mp c14
      omega
    · skip
      have c14 : ¬ (hi ≤ lo + i) := fun q9 => c14 ((lt_pred hla (by omega)).mpr q9)
      refine lv_iload hx hb dX2_least_17 (lv_at hl 0 rfl) ?_
      refine lv_sipush (v := nI 201) hx hb dX2_least_19 (by decide) ?_
      refine lv_icmp_ge (tgt := 42) hx hb dX2_least_22 (by decide) (fun c22 => ?_) (fun c22 => ?_)
      · skip
        have c22 : 201 ≤ lo + i := (nc_le (a := 201) (b := lo + i) (by omega) (by omega)).mp c22
        omega
      · skip
        have c22 : ¬ (201 ≤ lo + i) := fun q9 => c22 ((nc_le (a := 201) (b := lo + i) (by omega) (by omega)).mpr q9)
        refine lv_iload_n hx hb dX2_least_25 rfl (lv_at hl 1 rfl) ?_
        refine lv_aload_n hx hb dX2_least_26 rfl (lv_at hl 2 rfl) ?_
        refine lv_iload hx hb dX2_least_27 (lv_at hl 0 rfl) ?_
        refine vp_callSi (va_runV (As := [.int (nI (lo + i))]) (rest := [.int (lstV f lo i)]) ⟨hx, hb, hml, hown, hts⟩ (conX2_at l D T h a f (nI (lo + i))) (cwV 1 hts gX2_least_X2_at rfl rfl rfl (by decide +kernel) ⟨Nat.le_of_ble_eq_true rfl, Nat.le_of_ble_eq_true rfl⟩) (preV hK hh rfl ⟨hh, ha, hne⟩) rfl rfl hl.1 rfl (lv_room (Nat.le_of_ble_eq_true rfl)) dX2_least_29 ⟨Nat.le_of_ble_eq_true rfl, Nat.le_of_ble_eq_true rfl⟩).run (fun r3 hr3 => ?_)
        subst hr3
        refine va_mmin hx hb (hml.trans hl.1.symm) hown (hts (.methodLink RX2 15 Lib.Math.min.name) (by decide +kernel)) (hts (.static Lib.Math.min.name) (by decide +kernel)) (hts (.initialized "java/lang/Math") (by decide +kernel)) (hts (.code Lib.Math.min.name Lib.Math.min.code 2 (some .int)) (by decide +kernel)) (Nat.le_of_ble_eq_true rfl) (Nat.le_of_ble_eq_true rfl) (Nat.le_of_ble_eq_true rfl) (Nat.le_of_ble_eq_true rfl) dX2_least_32 ?_
        refine lv_istore_n (lv' := [(3, .int (jmin (lstV f lo i) (atV f (nI (lo + i))))), (4, .int (nI (lo + i))), (0, .ref h), (1, .int first), (2, .int last)]) hx hb dX2_least_35 rfl hl (by decide) rfl (fun ls hl => ?_)
        refine lv_iinc (v := nI (lo + i + 1)) (lv' := [(4, .int (nI (lo + i + 1))), (3, .int (jmin (lstV f lo i) (atV f (nI (lo + i))))), (0, .ref h), (1, .int first), (2, .int last)]) hx hb dX2_least_36 hl (k := 1) rfl (inc_1 _) (by decide) rfl (fun ls hl => ?_)
        refine lv_goto (tgt := 11) hx hb dX2_least_39 (by decide) ?_
        have e4 : nI (lo + i + 1) = nI (lo + (i + 1)) := by rfl
        have e5 : jmin (lstV f lo i) (atV f (nI (lo + i))) = lstV f lo (i + 1) := by (rw [lstV_s])
        exact hnext _ _ _ ⟨rfl, rfl, lv_sub (lv_ex (lv_ex hl 0 rfl (congrArg Value.int e4)) 1 rfl (congrArg Value.int e5)) [0, 1, 2, 3, 4] rfl⟩
  · skip
    intro H locs ls hin9
    obtain ⟨rfl, rfl, hl⟩ := hin9
    refine lv_iload hx hb dX2_least_11 (lv_at hl 0 rfl) ?_
    refine lv_iload_n hx hb dX2_least_13 rfl (lv_at hl 4 rfl) ?_
    refine lv_icmp_gt (tgt := 42) hx hb dX2_least_14 (by decide) (fun c14 => ?_) (fun c14 => ?_)
    · skip
      have c14 : hi ≤ lo + (min hi 201 - lo) := (lt_pred hla (by omega)).mp c14
      refine lv_iload_n hx hb dX2_least_42 rfl (lv_at hl 1 rfl) ?_
      exact W.iret (v := lstV f lo (min hi 201 - lo)) hx hb hr (fun t ht _ => ⟨lstV f lo (min hi 201 - lo), rfl, by rfl, ht⟩) (fun q hq => absurd hq List.not_mem_nil) dX2_least_43
    · skip
      have c14 : ¬ (hi ≤ lo + (min hi 201 - lo)) := fun q9 => c14 ((lt_pred hla (by omega)).mpr q9)
      refine lv_iload hx hb dX2_least_17 (lv_at hl 0 rfl) ?_
      refine lv_sipush (v := nI 201) hx hb dX2_least_19 (by decide) ?_
      refine lv_icmp_ge (tgt := 42) hx hb dX2_least_22 (by decide) (fun c22 => ?_) (fun c22 => ?_)
      · skip
        have c22 : 201 ≤ lo + (min hi 201 - lo) := (nc_le (a := 201) (b := lo + (min hi 201 - lo)) (by omega) (by omega)).mp c22
        refine lv_iload_n hx hb dX2_least_42 rfl (lv_at hl 1 rfl) ?_
        exact W.iret (v := lstV f lo (min hi 201 - lo)) hx hb hr (fun t ht _ => ⟨lstV f lo (min hi 201 - lo), rfl, by rfl, ht⟩) (fun q hq => absurd hq List.not_mem_nil) dX2_least_43
      · skip
        have c22 : ¬ (201 ≤ lo + (min hi 201 - lo)) := fun q9 => c22 ((nc_le (a := 201) (b := lo + (min hi 201 - lo)) (by omega) (by omega)).mpr q9)
        omega

set_option maxHeartbeats 4000000 in
set_option maxRecDepth 100000 in
theorem conX2_firstGreatest (l : Launch) (D : va_G) (T : Nat → ClassId) (h a : Nat) (f : Nat → Int32) : Met l yX2_firstGreatest wsX2_firstGreatest ({ frames := 1, cells := 0, slots := 0, locals := 21 }) (cP D T [.ref h] (fun H => SF D T h a f H)) (vp_Si (fun r => r = fgrV f 200)) 0 0 (fun _ => False) := by
  refine Met.ofW (cc := cX2_firstGreatest) (maxL := 3) (ret := (some .int)) (by decide) rfl ?_
  intro p e s m args below meth c s₁ B hml hv9
  obtain ⟨rfl, hK, hh, ha, hne⟩ := hv9
  have hx := B.exec
  have hb := B.bytes
  have hr := B.returns
  have hts := atoms_spec (ws := wsX2_firstGreatest) B.pre
  have hown : s.vm.findClass RX2 = some m.cls := findClass_of_methodNamed B.named
  have hlocks := B.notSynchronized
  have hl := lv_entry ([.ref h]) (n := 3) (Nat.le_of_ble_eq_true rfl)
  rw [lg_entry_eq]
  generalize (lg_sl ([.ref h]) ++ List.replicate (3 - (lg_sl ([.ref h])).length) Slot.unset).toArray = ls at hl ⊢
  have hl : lv_has ls 3 [(0, .ref h)] := hl
  refine lv_iconst (v := nI 0) hx hb dX2_firstGreatest_0 (by decide) ?_
  refine lv_istore_n (lv' := [(1, .int (nI 0)), (0, .ref h)]) hx hb dX2_firstGreatest_1 rfl hl (by decide) rfl (fun ls hl => ?_)
  refine lv_iconst (v := nI 1) hx hb dX2_firstGreatest_2 (by decide) ?_
  refine lv_istore_n (lv' := [(2, .int (nI 1)), (1, .int (nI 0)), (0, .ref h)]) hx hb dX2_firstGreatest_3 rfl hl (by decide) rfl (fun ls hl => ?_)
  refine q_for (fun (i : Nat) (H : Heap) (locs : List Loc) (ls : Array Slot) => H = s.heap ∧ locs = [] ∧ lv_has ls 3 [(2, .int (nI (i + 1))), (1, .int (fgrV f i)), (0, .ref h)]) (N := 200) 0 (by omega) ?_ ?_ ?_
  · skip
    have e1 : nI 0 = fgrV f 0 := by rfl
    exact ⟨rfl, rfl, lv_sub (lv_ex hl 1 rfl (congrArg Value.int e1)) [0, 1, 2] rfl⟩
  · skip
    intro i H locs ls hi9 hin9 hnext
    obtain ⟨rfl, rfl, hl⟩ := hin9
    refine lv_iload_n hx hb dX2_firstGreatest_4 rfl (lv_at hl 0 rfl) ?_
    refine lv_sipush (v := nI 201) hx hb dX2_firstGreatest_5 (by decide) ?_
    refine lv_icmp_ge (tgt := 32) hx hb dX2_firstGreatest_8 (by decide) (fun c8 => ?_) (fun c8 => ?_)
    · skip
      have c8 : 201 ≤ i + 1 := (nc_le (a := 201) (b := i + 1) (by omega) (by omega)).mp c8
      omega
    · skip
      have c8 : ¬ (201 ≤ i + 1) := fun q9 => c8 ((nc_le (a := 201) (b := i + 1) (by omega) (by omega)).mpr q9)
      refine lv_aload_n hx hb dX2_firstGreatest_11 rfl (lv_at hl 2 rfl) ?_
      refine lv_iload_n hx hb dX2_firstGreatest_12 rfl (lv_at hl 0 rfl) ?_
      refine vp_callSi (va_runV (As := [.int (nI (i + 1))]) (rest := []) ⟨hx, hb, hml, hown, hts⟩ (conX2_at l D T h a f (nI (i + 1))) (cwV 1 hts gX2_firstGreatest_X2_at rfl rfl rfl (by decide +kernel) ⟨Nat.le_of_ble_eq_true rfl, Nat.le_of_ble_eq_true rfl⟩) (preV hK hh rfl ⟨hh, ha, hne⟩) rfl rfl hl.1 rfl (lv_room (Nat.le_of_ble_eq_true rfl)) dX2_firstGreatest_13 ⟨Nat.le_of_ble_eq_true rfl, Nat.le_of_ble_eq_true rfl⟩).run (fun r2 hr2 => ?_)
      subst hr2
      refine lv_aload_n hx hb dX2_firstGreatest_16 rfl (lv_at hl 2 rfl) ?_
      refine lv_iload_n hx hb dX2_firstGreatest_17 rfl (lv_at hl 1 rfl) ?_
      refine vp_callSi (va_runV (As := [.int (fgrV f i)]) (rest := [.int (atV f (nI (i + 1)))]) ⟨hx, hb, hml, hown, hts⟩ (conX2_at l D T h a f (fgrV f i)) (cwV 1 hts gX2_firstGreatest_X2_at rfl rfl rfl (by decide +kernel) ⟨Nat.le_of_ble_eq_true rfl, Nat.le_of_ble_eq_true rfl⟩) (preV hK hh rfl ⟨hh, ha, hne⟩) rfl rfl hl.1 rfl (lv_room (Nat.le_of_ble_eq_true rfl)) dX2_firstGreatest_18 ⟨Nat.le_of_ble_eq_true rfl, Nat.le_of_ble_eq_true rfl⟩).run (fun r3 hr3 => ?_)
      subst hr3
      refine lv_icmp_le (tgt := 26) hx hb dX2_firstGreatest_21 (by decide) (fun c21 => ?_) (fun c21 => ?_)
      · skip
        refine lv_iinc (v := nI (i + 1 + 1)) (lv' := [(2, .int (nI (i + 1 + 1))), (1, .int (fgrV f i)), (0, .ref h)]) hx hb dX2_firstGreatest_26 hl (k := 0) rfl (inc_1 _) (by decide) rfl (fun ls hl => ?_)
        refine lv_goto (tgt := 4) hx hb dX2_firstGreatest_29 (by decide) ?_
        have e4 : nI (i + 1 + 1) = nI ((i + 1) + 1) := by rfl
        have e5 : fgrV f i = fgrV f (i + 1) := by first | (rw [fgrV_s, if_pos c21]; done) | (rw [fgrV_s, if_neg c21]; done)
        exact hnext _ _ _ ⟨rfl, rfl, lv_sub (lv_ex (lv_ex hl 0 rfl (congrArg Value.int e4)) 1 rfl (congrArg Value.int e5)) [0, 1, 2] rfl⟩
      · skip
        refine lv_iload_n hx hb dX2_firstGreatest_24 rfl (lv_at hl 0 rfl) ?_
        refine lv_istore_n (lv' := [(1, .int (nI (i + 1))), (2, .int (nI (i + 1))), (0, .ref h)]) hx hb dX2_firstGreatest_25 rfl hl (by decide) rfl (fun ls hl => ?_)
        refine lv_iinc (v := nI (i + 1 + 1)) (lv' := [(2, .int (nI (i + 1 + 1))), (1, .int (nI (i + 1))), (0, .ref h)]) hx hb dX2_firstGreatest_26 hl (k := 1) rfl (inc_1 _) (by decide) rfl (fun ls hl => ?_)
        refine lv_goto (tgt := 4) hx hb dX2_firstGreatest_29 (by decide) ?_
        have e6 : nI (i + 1 + 1) = nI ((i + 1) + 1) := by rfl
        have e7 : nI (i + 1) = fgrV f (i + 1) := by first | (rw [fgrV_s, if_pos c21]; done) | (rw [fgrV_s, if_neg c21]; done)
        exact hnext _ _ _ ⟨rfl, rfl, lv_sub (lv_ex (lv_ex hl 0 rfl (congrArg Value.int e6)) 1 rfl (congrArg Value.int e7)) [0, 1, 2] rfl⟩
  · skip
    intro H locs ls hin9
    obtain ⟨rfl, rfl, hl⟩ := hin9
    refine lv_iload_n hx hb dX2_firstGreatest_4 rfl (lv_at hl 0 rfl) ?_
    refine lv_sipush (v := nI 201) hx hb dX2_firstGreatest_5 (by decide) ?_
    refine lv_icmp_ge (tgt := 32) hx hb dX2_firstGreatest_8 (by decide) (fun c8 => ?_) (fun c8 => ?_)
    · skip
      have c8 : 201 ≤ 201 := (nc_le (a := 201) (b := 201) (by omega) (by omega)).mp c8
      refine lv_iload_n hx hb dX2_firstGreatest_32 rfl (lv_at hl 1 rfl) ?_
      exact W.iret (v := fgrV f 200) hx hb hr (fun t ht _ => ⟨fgrV f 200, rfl, by rfl, ht⟩) (fun q hq => absurd hq List.not_mem_nil) dX2_firstGreatest_33
    · skip
      have c8 : ¬ (201 ≤ 201) := fun q9 => c8 ((nc_le (a := 201) (b := 201) (by omega) (by omega)).mpr q9)
      omega

set_option maxHeartbeats 4000000 in
set_option maxRecDepth 100000 in
theorem conX2_negate (l : Launch) (D : va_G) (T : Nat → ClassId) (h a : Nat) (f : Nat → Int32) : Met l yX2_negate wsX2_negate ({ frames := 2, cells := 0, slots := 0, locals := 38 }) (cP D T [.ref h] (fun H => SF D T h a f H)) (va_Qv (fun (_ : Unit) => True) (fun _ t => pAt D t.heap a (eN (T 1) 201 (negV f 201))) (fun q : Nat => q = a)) 0 0 (fun q : Nat => q = a) := by
  refine Met.ofW (cc := cX2_negate) (maxL := 2) (ret := none) (by decide) rfl ?_
  intro p e s m args below meth c s₁ B hml hv9
  obtain ⟨rfl, hK, hh, ha, hne⟩ := hv9
  have hx := B.exec
  have hb := B.bytes
  have hr := B.returns
  have hts := atoms_spec (ws := wsX2_negate) B.pre
  have hown : s.vm.findClass RX2 = some m.cls := findClass_of_methodNamed B.named
  have hlocks := B.notSynchronized
  generalize hAe : (fun q : Nat => q = a) = A
  have hA_a : A a := by subst hAe; first | rfl | exact Or.inl rfl | exact Or.inr rfl | (simp; done)
  have hS : va_S A s.heap s.heap [] := va_S.rf
  have hl := lv_entry ([.ref h]) (n := 2) (Nat.le_of_ble_eq_true rfl)
  rw [lg_entry_eq]
  generalize (lg_sl ([.ref h]) ++ List.replicate (2 - (lg_sl ([.ref h])).length) Slot.unset).toArray = ls at hl ⊢
  have hl : lv_has ls 2 [(0, .ref h)] := hl
  refine lv_iconst (v := nI 0) hx hb dX2_negate_0 (by decide) ?_
  refine lv_istore_n (lv' := [(1, .int (nI 0)), (0, .ref h)]) hx hb dX2_negate_1 rfl hl (by decide) rfl (fun ls hl => ?_)
  refine q_for (fun (i : Nat) (H : Heap) (locs : List Loc) (ls : Array Slot) => va_S A s.heap H locs ∧ lv_has ls 2 [(1, .int (nI i)), (0, .ref h)] ∧ pAt D H h (eO 2 [.ref a]) ∧ pAt D H a (eN (T 1) 201 (negV f i))) (N := 201) 0 (by omega) ?_ ?_ ?_
  · skip
    have e1 : (eN (T 1) 201 f) = (eN (T 1) 201 (negV f 0)) := by rfl
    exact ⟨hS, lv_sub hl [0, 1] rfl, hh, (by rw [← e1]; exact ha)⟩
  · skip
    intro i H locs ls hi9 hin9 hnext
    obtain ⟨hS, hl, hh, ha⟩ := hin9
    refine lv_iload_n hx hb dX2_negate_2 rfl (lv_at hl 0 rfl) ?_
    refine lv_sipush (v := nI 201) hx hb dX2_negate_3 (by decide) ?_
    refine lv_icmp_ge (tgt := 26) hx hb dX2_negate_6 (by decide) (fun c6 => ?_) (fun c6 => ?_)
    · skip
      have c6 : 201 ≤ i := (nc_le (a := 201) (b := i) (by omega) (by omega)).mp c6
      omega
    · skip
      have c6 : ¬ (201 ≤ i) := fun q9 => c6 ((nc_le (a := 201) (b := i) (by omega) (by omega)).mpr q9)
      refine lv_aload_n hx hb dX2_negate_9 rfl (lv_at hl 1 rfl) ?_
      refine lv_iload_n hx hb dX2_negate_10 rfl (lv_at hl 0 rfl) ?_
      refine lv_aload_n hx hb dX2_negate_11 rfl (lv_at hl 1 rfl) ?_
      refine lv_iload_n hx hb dX2_negate_12 rfl (lv_at hl 0 rfl) ?_
      refine vp_callSi (va_runV (As := [.int (nI i)]) (rest := [.int (nI i), .ref h]) ⟨hx, hb, hml, hown, hts⟩ (conX2_at l D T h a (negV f i) (nI i)) (cwV 1 hts gX2_negate_X2_at rfl rfl rfl (by decide +kernel) ⟨Nat.le_of_ble_eq_true rfl, Nat.le_of_ble_eq_true rfl⟩) (preV hK hh rfl ⟨hh, ha, hne⟩) rfl rfl hl.1 rfl (lv_room (Nat.le_of_ble_eq_true rfl)) dX2_negate_13 ⟨Nat.le_of_ble_eq_true rfl, Nat.le_of_ble_eq_true rfl⟩).run (fun r2 hr2 => ?_)
      subst hr2
      refine lv_ineg hx hb dX2_negate_16 ?_
      refine va_callv (va_runV (As := [.int (nI i), .int (-(atV (negV f i) (nI i)))]) (rest := []) ⟨hx, hb, hml, hown, hts⟩ (conX2_write l D T h a (negV f i) (nI i) (-(atV (negV f i) (nI i)))) (cwV 2 hts gX2_negate_X2_write rfl rfl rfl (by decide +kernel) ⟨Nat.le_of_ble_eq_true rfl, Nat.le_of_ble_eq_true rfl⟩) (preV hK hh rfl ⟨hh, ha, hne⟩) rfl rfl hl.1 rfl (lv_room (Nat.le_of_ble_eq_true rfl)) dX2_negate_17 ⟨Nat.le_of_ble_eq_true rfl, Nat.le_of_ble_eq_true rfl⟩) hS (fun q _ h9 => (by have h8 : q = a := h9; rw [h8]; exact hA_a)) (fun q h9 => (by have h8 : q = a := h9; rw [h8]; exact hA_a)) (fun u t H1 locs1 ht hvm hw hB hz1 hk1 hS => ?_)
      try dsimp only at hB
      rw [ht] at hB
      replace hh := hh.kept (hk1 _ hh.lt (fun h9 => hne h9))
      have ha := hB
      refine lv_iinc (v := nI (i + 1)) (lv' := [(1, .int (nI (i + 1))), (0, .ref h)]) hx hb dX2_negate_20 hl (k := 0) rfl (inc_1 _) (by decide) rfl (fun ls hl => ?_)
      refine lv_goto (tgt := 2) hx hb dX2_negate_23 (by decide) ?_
      have e3 : (eN (T 1) 201 (wrV (negV f i) (nI i) (-(atV (negV f i) (nI i))))) = (eN (T 1) 201 (negV f (i + 1))) := by (rw [negV_s])
      exact hnext _ _ _ ⟨hS, lv_sub hl [0, 1] rfl, hh, (by rw [← e3]; exact ha)⟩
  · skip
    intro H locs ls hin9
    obtain ⟨hS, hl, hh, ha⟩ := hin9
    refine lv_iload_n hx hb dX2_negate_2 rfl (lv_at hl 0 rfl) ?_
    refine lv_sipush (v := nI 201) hx hb dX2_negate_3 (by decide) ?_
    refine lv_icmp_ge (tgt := 26) hx hb dX2_negate_6 (by decide) (fun c6 => ?_) (fun c6 => ?_)
    · skip
      have c6 : 201 ≤ 201 := (nc_le (a := 201) (b := 201) (by omega) (by omega)).mp c6
      exact W.vret hx hb hr (fun t ht _ => ⟨⟨(), rfl, trivial, by dsimp only; rw [ht]; exact ha⟩, hS.F ht⟩) hS.2.2 dX2_negate_26
    · skip
      have c6 : ¬ (201 ≤ 201) := fun q9 => c6 ((nc_le (a := 201) (b := 201) (by omega) (by omega)).mpr q9)
      omega

set_option maxHeartbeats 4000000 in
set_option maxRecDepth 100000 in
theorem conX2_climbFromLeft (l : Launch) (D : va_G) (T : Nat → ClassId) (h a : Nat) (f : Nat → Int32) : Met l yX2_climbFromLeft wsX2_climbFromLeft ({ frames := 2, cells := 0, slots := 0, locals := 38 }) (cP D T [.ref h] (fun H => SF D T h a f H)) (va_Qv (fun (_ : Unit) => True) (fun _ t => pAt D t.heap a (eN (T 1) 201 (cliV f 200))) (fun q : Nat => q = a)) 0 0 (fun q : Nat => q = a) := by
  refine Met.ofW (cc := cX2_climbFromLeft) (maxL := 2) (ret := none) (by decide) rfl ?_
  intro p e s m args below meth c s₁ B hml hv9
  obtain ⟨rfl, hK, hh, ha, hne⟩ := hv9
  have hx := B.exec
  have hb := B.bytes
  have hr := B.returns
  have hts := atoms_spec (ws := wsX2_climbFromLeft) B.pre
  have hown : s.vm.findClass RX2 = some m.cls := findClass_of_methodNamed B.named
  have hlocks := B.notSynchronized
  generalize hAe : (fun q : Nat => q = a) = A
  have hA_a : A a := by subst hAe; first | rfl | exact Or.inl rfl | exact Or.inr rfl | (simp; done)
  have hS : va_S A s.heap s.heap [] := va_S.rf
  have hl := lv_entry ([.ref h]) (n := 2) (Nat.le_of_ble_eq_true rfl)
  rw [lg_entry_eq]
  generalize (lg_sl ([.ref h]) ++ List.replicate (2 - (lg_sl ([.ref h])).length) Slot.unset).toArray = ls at hl ⊢
  have hl : lv_has ls 2 [(0, .ref h)] := hl
  refine lv_iconst (v := nI 1) hx hb dX2_climbFromLeft_0 (by decide) ?_
  refine lv_istore_n (lv' := [(1, .int (nI 1)), (0, .ref h)]) hx hb dX2_climbFromLeft_1 rfl hl (by decide) rfl (fun ls hl => ?_)
  refine q_for (fun (i : Nat) (H : Heap) (locs : List Loc) (ls : Array Slot) => va_S A s.heap H locs ∧ lv_has ls 2 [(1, .int (nI (i + 1))), (0, .ref h)] ∧ pAt D H h (eO 2 [.ref a]) ∧ pAt D H a (eN (T 1) 201 (cliV f i))) (N := 200) 0 (by omega) ?_ ?_ ?_
  · skip
    have e1 : (eN (T 1) 201 f) = (eN (T 1) 201 (cliV f 0)) := by rfl
    exact ⟨hS, lv_sub hl [0, 1] rfl, hh, (by rw [← e1]; exact ha)⟩
  · skip
    intro i H locs ls hi9 hin9 hnext
    obtain ⟨hS, hl, hh, ha⟩ := hin9
    refine lv_iload_n hx hb dX2_climbFromLeft_2 rfl (lv_at hl 0 rfl) ?_
    refine lv_sipush (v := nI 201) hx hb dX2_climbFromLeft_3 (by decide) ?_
    refine lv_icmp_ge (tgt := 35) hx hb dX2_climbFromLeft_6 (by decide) (fun c6 => ?_) (fun c6 => ?_)
    · skip
      have c6 : 201 ≤ i + 1 := (nc_le (a := 201) (b := i + 1) (by omega) (by omega)).mp c6
      omega
    · skip
      have c6 : ¬ (201 ≤ i + 1) := fun q9 => c6 ((nc_le (a := 201) (b := i + 1) (by omega) (by omega)).mpr q9)
      refine lv_aload_n hx hb dX2_climbFromLeft_9 rfl (lv_at hl 1 rfl) ?_
      refine lv_iload_n hx hb dX2_climbFromLeft_10 rfl (lv_at hl 0 rfl) ?_
      refine lv_aload_n hx hb dX2_climbFromLeft_11 rfl (lv_at hl 1 rfl) ?_
      refine lv_iload_n hx hb dX2_climbFromLeft_12 rfl (lv_at hl 0 rfl) ?_
      refine vp_callSi (va_runV (As := [.int (nI (i + 1))]) (rest := [.int (nI (i + 1)), .ref h]) ⟨hx, hb, hml, hown, hts⟩ (conX2_at l D T h a (cliV f i) (nI (i + 1))) (cwV 1 hts gX2_climbFromLeft_X2_at rfl rfl rfl (by decide +kernel) ⟨Nat.le_of_ble_eq_true rfl, Nat.le_of_ble_eq_true rfl⟩) (preV hK hh rfl ⟨hh, ha, hne⟩) rfl rfl hl.1 rfl (lv_room (Nat.le_of_ble_eq_true rfl)) dX2_climbFromLeft_13 ⟨Nat.le_of_ble_eq_true rfl, Nat.le_of_ble_eq_true rfl⟩).run (fun r2 hr2 => ?_)
      subst hr2
      refine lv_aload_n hx hb dX2_climbFromLeft_16 rfl (lv_at hl 1 rfl) ?_
      refine lv_iload_n hx hb dX2_climbFromLeft_17 rfl (lv_at hl 0 rfl) ?_
      refine lv_iconst (v := nI 1) hx hb dX2_climbFromLeft_18 (by decide) ?_
      refine lv_isub hx hb dX2_climbFromLeft_19 ?_
      refine vp_callSi (va_runV (As := [.int ((nI (i + 1)) - (nI 1))]) (rest := [.int (atV (cliV f i) (nI (i + 1))), .int (nI (i + 1)), .ref h]) ⟨hx, hb, hml, hown, hts⟩ (conX2_at l D T h a (cliV f i) ((nI (i + 1)) - (nI 1))) (cwV 1 hts gX2_climbFromLeft_X2_at rfl rfl rfl (by decide +kernel) ⟨Nat.le_of_ble_eq_true rfl, Nat.le_of_ble_eq_true rfl⟩) (preV hK hh rfl ⟨hh, ha, hne⟩) rfl rfl hl.1 rfl (lv_room (Nat.le_of_ble_eq_true rfl)) dX2_climbFromLeft_20 ⟨Nat.le_of_ble_eq_true rfl, Nat.le_of_ble_eq_true rfl⟩).run (fun r3 hr3 => ?_)
      subst hr3
      refine va_mmax hx hb (hml.trans hl.1.symm) hown (hts (.methodLink RX2 21 Lib.Math.max.name) (by decide +kernel)) (hts (.static Lib.Math.max.name) (by decide +kernel)) (hts (.initialized "java/lang/Math") (by decide +kernel)) (hts (.code Lib.Math.max.name Lib.Math.max.code 2 (some .int)) (by decide +kernel)) (Nat.le_of_ble_eq_true rfl) (Nat.le_of_ble_eq_true rfl) (Nat.le_of_ble_eq_true rfl) (Nat.le_of_ble_eq_true rfl) dX2_climbFromLeft_23 ?_
      refine va_callv (va_runV (As := [.int (nI (i + 1)), .int (jmax (atV (cliV f i) (nI (i + 1))) (atV (cliV f i) ((nI (i + 1)) - (nI 1))))]) (rest := []) ⟨hx, hb, hml, hown, hts⟩ (conX2_write l D T h a (cliV f i) (nI (i + 1)) (jmax (atV (cliV f i) (nI (i + 1))) (atV (cliV f i) ((nI (i + 1)) - (nI 1))))) (cwV 2 hts gX2_climbFromLeft_X2_write rfl rfl rfl (by decide +kernel) ⟨Nat.le_of_ble_eq_true rfl, Nat.le_of_ble_eq_true rfl⟩) (preV hK hh rfl ⟨hh, ha, hne⟩) rfl rfl hl.1 rfl (lv_room (Nat.le_of_ble_eq_true rfl)) dX2_climbFromLeft_26 ⟨Nat.le_of_ble_eq_true rfl, Nat.le_of_ble_eq_true rfl⟩) hS (fun q _ h9 => (by have h8 : q = a := h9; rw [h8]; exact hA_a)) (fun q h9 => (by have h8 : q = a := h9; rw [h8]; exact hA_a)) (fun u t H1 locs1 ht hvm hw hB hz1 hk1 hS => ?_)
      try dsimp only at hB
      rw [ht] at hB
      replace hh := hh.kept (hk1 _ hh.lt (fun h9 => hne h9))
      have ha := hB
      refine lv_iinc (v := nI (i + 1 + 1)) (lv' := [(1, .int (nI (i + 1 + 1))), (0, .ref h)]) hx hb dX2_climbFromLeft_29 hl (k := 0) rfl (inc_1 _) (by decide) rfl (fun ls hl => ?_)
      refine lv_goto (tgt := 2) hx hb dX2_climbFromLeft_32 (by decide) ?_
      have e4 : nI (i + 1 + 1) = nI ((i + 1) + 1) := by rfl
      have e5 : (eN (T 1) 201 (wrV (cliV f i) (nI (i + 1)) (jmax (atV (cliV f i) (nI (i + 1))) (atV (cliV f i) ((nI (i + 1)) - (nI 1)))))) = (eN (T 1) 201 (cliV f (i + 1))) := by (rw [cliV_s])
      exact hnext _ _ _ ⟨hS, lv_sub (lv_ex hl 0 rfl (congrArg Value.int e4)) [0, 1] rfl, hh, (by rw [← e5]; exact ha)⟩
  · skip
    intro H locs ls hin9
    obtain ⟨hS, hl, hh, ha⟩ := hin9
    refine lv_iload_n hx hb dX2_climbFromLeft_2 rfl (lv_at hl 0 rfl) ?_
    refine lv_sipush (v := nI 201) hx hb dX2_climbFromLeft_3 (by decide) ?_
    refine lv_icmp_ge (tgt := 35) hx hb dX2_climbFromLeft_6 (by decide) (fun c6 => ?_) (fun c6 => ?_)
    · skip
      have c6 : 201 ≤ 201 := (nc_le (a := 201) (b := 201) (by omega) (by omega)).mp c6
      exact W.vret hx hb hr (fun t ht _ => ⟨⟨(), rfl, trivial, by dsimp only; rw [ht]; exact ha⟩, hS.F ht⟩) hS.2.2 dX2_climbFromLeft_35
    · skip
      have c6 : ¬ (201 ≤ 201) := fun q9 => c6 ((nc_le (a := 201) (b := 201) (by omega) (by omega)).mpr q9)
      omega

set_option maxHeartbeats 4000000 in
set_option maxRecDepth 100000 in
theorem conX2_climbFromRight (l : Launch) (D : va_G) (T : Nat → ClassId) (h a : Nat) (f : Nat → Int32) : Met l yX2_climbFromRight wsX2_climbFromRight ({ frames := 2, cells := 0, slots := 0, locals := 38 }) (cP D T [.ref h] (fun H => SF D T h a f H)) (va_Qv (fun (_ : Unit) => True) (fun _ t => pAt D t.heap a (eN (T 1) 201 (criV f 200))) (fun q : Nat => q = a)) 0 0 (fun q : Nat => q = a) := by
  refine Met.ofW (cc := cX2_climbFromRight) (maxL := 2) (ret := none) (by decide) rfl ?_
  intro p e s m args below meth c s₁ B hml hv9
  obtain ⟨rfl, hK, hh, ha, hne⟩ := hv9
  have hx := B.exec
  have hb := B.bytes
  have hr := B.returns
  have hts := atoms_spec (ws := wsX2_climbFromRight) B.pre
  have hown : s.vm.findClass RX2 = some m.cls := findClass_of_methodNamed B.named
  have hlocks := B.notSynchronized
  generalize hAe : (fun q : Nat => q = a) = A
  have hA_a : A a := by subst hAe; first | rfl | exact Or.inl rfl | exact Or.inr rfl | (simp; done)
  have hS : va_S A s.heap s.heap [] := va_S.rf
  have hl := lv_entry ([.ref h]) (n := 2) (Nat.le_of_ble_eq_true rfl)
  rw [lg_entry_eq]
  generalize (lg_sl ([.ref h]) ++ List.replicate (2 - (lg_sl ([.ref h])).length) Slot.unset).toArray = ls at hl ⊢
  have hl : lv_has ls 2 [(0, .ref h)] := hl
  refine lv_sipush (v := nI 199) hx hb dX2_climbFromRight_0 (by decide) ?_
  refine lv_istore_n (lv' := [(1, .int (nI 199)), (0, .ref h)]) hx hb dX2_climbFromRight_3 rfl hl (by decide) rfl (fun ls hl => ?_)
  refine q_for (fun (i : Nat) (H : Heap) (locs : List Loc) (ls : Array Slot) => va_S A s.heap H locs ∧ lv_has ls 2 [(1, .int (dn 199 i)), (0, .ref h)] ∧ pAt D H h (eO 2 [.ref a]) ∧ pAt D H a (eN (T 1) 201 (criV f i))) (N := 200) 0 (by omega) ?_ ?_ ?_
  · skip
    have e1 : nI 199 = dn 199 0 := by exact dn_0 _
    have e2 : (eN (T 1) 201 f) = (eN (T 1) 201 (criV f 0)) := by rfl
    exact ⟨hS, lv_sub (lv_ex hl 0 rfl (congrArg Value.int e1)) [0, 1] rfl, hh, (by rw [← e2]; exact ha)⟩
  · skip
    intro i H locs ls hi9 hin9 hnext
    obtain ⟨hS, hl, hh, ha⟩ := hin9
    refine lv_iload_n hx hb dX2_climbFromRight_4 rfl (lv_at hl 0 rfl) ?_
    refine lv_if_lt (tgt := 34) hx hb dX2_climbFromRight_5 (by decide) (fun c5 => ?_) (fun c5 => ?_)
    · skip
      have c5 : 199 < i := (dn_neg (by omega) (by omega)).mp c5
      omega
    · skip
      have c5 : ¬ (199 < i) := fun q9 => c5 ((dn_neg (by omega) (by omega)).mpr q9)
      refine lv_aload_n hx hb dX2_climbFromRight_8 rfl (lv_at hl 1 rfl) ?_
      refine lv_iload_n hx hb dX2_climbFromRight_9 rfl (lv_at hl 0 rfl) ?_
      refine lv_aload_n hx hb dX2_climbFromRight_10 rfl (lv_at hl 1 rfl) ?_
      refine lv_iload_n hx hb dX2_climbFromRight_11 rfl (lv_at hl 0 rfl) ?_
      refine vp_callSi (va_runV (As := [.int (dn 199 i)]) (rest := [.int (dn 199 i), .ref h]) ⟨hx, hb, hml, hown, hts⟩ (conX2_at l D T h a (criV f i) (dn 199 i)) (cwV 1 hts gX2_climbFromRight_X2_at rfl rfl rfl (by decide +kernel) ⟨Nat.le_of_ble_eq_true rfl, Nat.le_of_ble_eq_true rfl⟩) (preV hK hh rfl ⟨hh, ha, hne⟩) rfl rfl hl.1 rfl (lv_room (Nat.le_of_ble_eq_true rfl)) dX2_climbFromRight_12 ⟨Nat.le_of_ble_eq_true rfl, Nat.le_of_ble_eq_true rfl⟩).run (fun r3 hr3 => ?_)
      subst hr3
      refine lv_aload_n hx hb dX2_climbFromRight_15 rfl (lv_at hl 1 rfl) ?_
      refine lv_iload_n hx hb dX2_climbFromRight_16 rfl (lv_at hl 0 rfl) ?_
      refine lv_iconst (v := nI 1) hx hb dX2_climbFromRight_17 (by decide) ?_
      refine lv_iadd hx hb dX2_climbFromRight_18 ?_
      refine vp_callSi (va_runV (As := [.int ((dn 199 i) + (nI 1))]) (rest := [.int (atV (criV f i) (dn 199 i)), .int (dn 199 i), .ref h]) ⟨hx, hb, hml, hown, hts⟩ (conX2_at l D T h a (criV f i) ((dn 199 i) + (nI 1))) (cwV 1 hts gX2_climbFromRight_X2_at rfl rfl rfl (by decide +kernel) ⟨Nat.le_of_ble_eq_true rfl, Nat.le_of_ble_eq_true rfl⟩) (preV hK hh rfl ⟨hh, ha, hne⟩) rfl rfl hl.1 rfl (lv_room (Nat.le_of_ble_eq_true rfl)) dX2_climbFromRight_19 ⟨Nat.le_of_ble_eq_true rfl, Nat.le_of_ble_eq_true rfl⟩).run (fun r4 hr4 => ?_)
      subst hr4
      refine va_mmax hx hb (hml.trans hl.1.symm) hown (hts (.methodLink RX2 21 Lib.Math.max.name) (by decide +kernel)) (hts (.static Lib.Math.max.name) (by decide +kernel)) (hts (.initialized "java/lang/Math") (by decide +kernel)) (hts (.code Lib.Math.max.name Lib.Math.max.code 2 (some .int)) (by decide +kernel)) (Nat.le_of_ble_eq_true rfl) (Nat.le_of_ble_eq_true rfl) (Nat.le_of_ble_eq_true rfl) (Nat.le_of_ble_eq_true rfl) dX2_climbFromRight_22 ?_
      refine va_callv (va_runV (As := [.int (dn 199 i), .int (jmax (atV (criV f i) (dn 199 i)) (atV (criV f i) ((dn 199 i) + (nI 1))))]) (rest := []) ⟨hx, hb, hml, hown, hts⟩ (conX2_write l D T h a (criV f i) (dn 199 i) (jmax (atV (criV f i) (dn 199 i)) (atV (criV f i) ((dn 199 i) + (nI 1))))) (cwV 2 hts gX2_climbFromRight_X2_write rfl rfl rfl (by decide +kernel) ⟨Nat.le_of_ble_eq_true rfl, Nat.le_of_ble_eq_true rfl⟩) (preV hK hh rfl ⟨hh, ha, hne⟩) rfl rfl hl.1 rfl (lv_room (Nat.le_of_ble_eq_true rfl)) dX2_climbFromRight_25 ⟨Nat.le_of_ble_eq_true rfl, Nat.le_of_ble_eq_true rfl⟩) hS (fun q _ h9 => (by have h8 : q = a := h9; rw [h8]; exact hA_a)) (fun q h9 => (by have h8 : q = a := h9; rw [h8]; exact hA_a)) (fun u t H1 locs1 ht hvm hw hB hz1 hk1 hS => ?_)
      try dsimp only at hB
      rw [ht] at hB
      replace hh := hh.kept (hk1 _ hh.lt (fun h9 => hne h9))
      have ha := hB
      refine lv_iinc (v := dn 199 (i + 1)) (lv' := [(1, .int (dn 199 (i + 1))), (0, .ref h)]) hx hb dX2_climbFromRight_28 hl (k := 0) rfl (dn_s (by omega) (by omega)) (by decide) rfl (fun ls hl => ?_)
      refine lv_goto (tgt := 4) hx hb dX2_climbFromRight_31 (by decide) ?_
      have e5 : (eN (T 1) 201 (wrV (criV f i) (dn 199 i) (jmax (atV (criV f i) (dn 199 i)) (atV (criV f i) ((dn 199 i) + (nI 1)))))) = (eN (T 1) 201 (criV f (i + 1))) := by (rw [criV_s])
      exact hnext _ _ _ ⟨hS, lv_sub hl [0, 1] rfl, hh, (by rw [← e5]; exact ha)⟩
  · skip
    intro H locs ls hin9
    obtain ⟨hS, hl, hh, ha⟩ := hin9
    refine lv_iload_n hx hb dX2_climbFromRight_4 rfl (lv_at hl 0 rfl) ?_
    refine lv_if_lt (tgt := 34) hx hb dX2_climbFromRight_5 (by decide) (fun c5 => ?_) (fun c5 => ?_)
    · skip
      have c5 : 199 < 200 := (dn_neg (by omega) (by omega)).mp c5
      exact W.vret hx hb hr (fun t ht _ => ⟨⟨(), rfl, trivial, by dsimp only; rw [ht]; exact ha⟩, hS.F ht⟩) hS.2.2 dX2_climbFromRight_34
    · skip
      have c5 : ¬ (199 < 200) := fun q9 => c5 ((dn_neg (by omega) (by omega)).mpr q9)
      omega
end
section
theorem i_vc : Claimed_1_1 ∧ Claimed_1_2 := sorry
end
