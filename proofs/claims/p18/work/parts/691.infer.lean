/-! ===== infer and reduce ===== -/
