import java.util.ArrayList;
import java.util.List;

/** Each sentence of the document that names an edge, in a test of its own, whose name begins with its promise. */
public final class EdgeTest {
    private static final int PROMISES = 45;

    public static void main(String[] args) throws Exception {
        Class<?>[] all = {EdgesOfDancers.class, EdgesOfHours.class, EdgesOfThought.class, EdgesOfTexts.class, EdgesOfSheets.class, EdgesOfRows.class};
        List<String> names = new ArrayList<>();
        for (Class<?> c : all) names.addAll(Edges.runAll(c));
        int untold = 0;
        for (int p = 1; p <= PROMISES; p++) {
            String begin = String.format("promise%02d", p);
            if (names.stream().anyMatch(n -> n.startsWith(begin))) continue;
            untold++;
            System.out.println("no test of an edge of promise " + p);
        }
        System.out.println(names.size() + " edges, " + Edges.looked() + " answers looked at, " + Edges.wrong() + " are not as due");
        if (Edges.wrong() != 0 || untold != 0) System.exit(1);
    }
}
