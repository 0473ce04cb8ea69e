/** What calls can be made on: the program or the model. */
interface Subject {
    /** The answer as text: a number, true, false, or done if the call has none; or the exception's name. */
    String answer(String name, int... arguments);
}
