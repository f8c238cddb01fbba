/** Each sentence of ../shared/DOC.md has a test of its own, and holds. Runs in the project's folder. */
public final class EdgesTest {
    private EdgesTest() {
    }

    public static void main(String[] args) {
        UseEdges.check();
        ProgramTermsEdges.check();
        ClothTermsEdges.check();
        ProgramEdges.check();
        LoomEdges.check();
        ClothEdges.check();
        WouldBeEdges.check();
        Sentences.checkThatAllAreNamed();
        Checks.close();
    }
}
