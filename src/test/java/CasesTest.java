import java.io.IOException;

/** Each sentence of the document, and each boundary that it names, by a case of its own. */
public final class CasesTest {
    public static void main(String[] args) throws IOException {
        Cases.read();
        EntryCases.run();
        TextCases.run();
        TellCases.run();
        HandCases.run();
        RingCases.run();
        PartCases.run();
        BestCases.run();
        Cases.close();
        Due.close("CasesTest");
    }
}
