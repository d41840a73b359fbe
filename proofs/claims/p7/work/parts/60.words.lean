theorem rf_code : ∀ c : Jvm.Cond, su_isCode c = true → c.before start1.args0 start1.about = true → c.before start1.args0 rf_about = true := by
  intro c h h0
  cases c <;> first | exact h0 | cases h
theorem rf_word {l : List Jvm.Cond} (h : l.all (fun c => su_isCode c || c.before start1.args0 rf_about) = true) (h0 : ∀ c ∈ l, c.before start1.args0 start1.about = true) : ∀ c ∈ l, c.before start1.args0 rf_about = true :=
  su_words h (fun c hc => by
    have hm := List.mem_filter.mp hc
    exact rf_code c hm.2 (h0 c hm.1))
theorem rf_words : ∀ c ∈ (Cond.code x code maxLocals ret :: tables_1), c.before start1.args0 rf_about = true := by
  intro c hc
  have h0 := start1.words
  rcases List.mem_cons.mp hc with h | h
  · exact rf_code c (by rw [h]; rfl) (h0 c hc)
  · have g : c ∈ tables_1_1 ++ (tables_1_2 ++ (tables_1_3 ++ (tables_1_4 ++ (tables_1_5)))) := h
    rcases List.mem_append.mp g with g' | g
    · exact rf_word rf_o1 (fun d hd => start1.words_1 d hd) c g'
    rcases List.mem_append.mp g with g' | g
    · exact rf_word rf_o2 (fun d hd => start1.words_2 d hd) c g'
    rcases List.mem_append.mp g with g' | g
    · exact rf_word rf_o3 (fun d hd => start1.words_3 d hd) c g'
    rcases List.mem_append.mp g with g' | g
    · exact rf_word rf_o4 (fun d hd => start1.words_4 d hd) c g'
    exact rf_word rf_o5 (fun d hd => start1.words_5 d hd) c g
