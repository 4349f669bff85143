section
/-! EVIDENCE, NOT A PROOF OF THE ROW: the printed statement asks that the law's own entry be code without an exception table; the law's class file has one there (its try and catch around sweeten). So no launch meets what the statement asks for, its witness is false, and its two claims say nothing. -/
theorem fb_p25_no_such_code : classFile.hasCode x code maxLocals ret = false := by decide +kernel
theorem fb_p25_the_table : classFile.hasCodeWith x code maxLocals ret [(240, 276, 280, 82)] = true := by decide +kernel
theorem fb_p25_not_pinned : ¬ PinnedClaimed := by
  intro h
  have h1 : classFile.hasCode x code maxLocals ret = true := h
  rw [fb_p25_no_such_code] at h1
  exact Bool.noConfusion h1
theorem fb_p25_head : (x, code, maxLocals, ret) ∈ (Jvm.D.headSpec (Jvm.Cond.code x code maxLocals ret :: tables_1) room_1).pre.codes ++ (Jvm.D.headSpec (Jvm.Cond.code x code maxLocals ret :: tables_1) room_1).post.codes := List.mem_of_getElem? (i := 0) (by decide +kernel)
theorem fb_p25_no_lists (l : Launch) : ¬ Jvm.D.Lists l classFile x code maxLocals ret tables_1 room_1 := by
  rintro ⟨-, hf, ⟨hc, -⟩, -⟩
  have h := hc _ fb_p25_head
  have h1 : ((l.file? x.cls).any fun f => f.hasCode x code maxLocals ret) = true := h
  rw [hf, Option.any_some, fb_p25_no_such_code] at h1
  exact Bool.noConfusion h1
theorem fb_p25_lists_false : ¬ ListsClaimed_1 := fb_p25_no_lists launch0
/-- the statement's own witness is false -/
theorem fb_p25_no_witness : ¬ WitnessClaimed_1 := fun ⟨_, _, _, _, _, _, h⟩ => fb_p25_no_lists launch0 h.1
/-- any answer at all can be claimed of it: the two owed claims say nothing of the class -/
theorem fb_p25_says_nothing (Post : Jvm.Tables → Jvm.Env → Array Jvm.Value → Jvm.State → Jvm.Outcome → Jvm.State → Prop) : Jvm.D.ArmFor flags0 classFile x code maxLocals ret World_1 tables_1 room_1 Calls_1 rest_1 Pre_1 Post := fun l _ h _ => absurd h (fb_p25_no_lists l)
/-- of the list that falls in the printed modules only its first entry, the law's own, is to blame -/
theorem fb_p25_the_others : List.all (List.drop 1 ((Jvm.D.headSpec (Jvm.Cond.code x code maxLocals ret :: tables_1) room_1).pre.codes ++ (Jvm.D.headSpec (Jvm.Cond.code x code maxLocals ret :: tables_1) room_1).post.codes)) (fun y => (launch0.file? y.1.cls).any fun f => f.hasCode y.1 y.2.1 y.2.2.1 y.2.2.2) = true := by decide +kernel
end
