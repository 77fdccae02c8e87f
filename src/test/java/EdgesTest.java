/**
 * The document sentence by sentence: each sentence that names a boundary case has tests of its own,
 * and every other one is told as one that names none, or here by which test it is held.
 */
public final class EdgesTest {
    public static void main(String[] args) {
        // What the bench is for (ReadmeTest goes all of that way once), and the headings of the calls.
        Sentences.plain("What it is", "A bench for decisions under chance with several gains.");
        Sentences.plain("Terms", "A program in a small language tells variables [..] with a die.");
        Sentences.plain("Terms", "Ahead of the calls `feed`, [..] the interface says: ---- programs.");
        Sentences.plain("Terms", "Ahead of the calls `value`, [..] the interface says: ---- states.");
        Sentences.plain("Terms", "Ahead of the calls `weigh`, [..] the interface says: ---- strategies.");
        Sentences.plain("Terms", "Ahead of the calls `reach`, [..] without a strategy, and playing.");
        // FaceTest holds these.
        Sentences.plain("The public face", "public final class MarkovBench { [..] digest();\n}");
        TapeEdges.run();
        FormEdges.run();
        MeaningEdges.run();
        StatesEdges.run();
        StrategiesEdges.run();
        PlayingEdges.run();
        Sentences.end();
        Check.end();
    }
}
