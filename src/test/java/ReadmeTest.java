import java.io.IOException;
import java.nio.file.Files;
import java.nio.file.Path;
import java.util.List;

/** The calls that README.md shows answer what it says, and it shows all that are made here, in this order. */
public final class ReadmeTest {
    private static final Check CHECK = new Check("ReadmeTest");
    private static List<String> lines;
    private static int line = 0;

    public static void main(String[] args) throws IOException {
        lines = Files.readAllLines(Path.of("README.md"));
        packedAndMovedOut();
        writtenByHand();
        noneLeft();
        CHECK.end();
    }

    private static void packedAndMovedOut() {
        ObjectStreams x = new ObjectStreams();
        shown("x.object(0)", x.object(0));
        shown("x.object(0)", x.object(0));
        shown("x.put(0, (byte) 7)", x.put(0, (byte) 7));
        shown("x.put(0, (byte) 8)", x.put(0, (byte) 8));
        shown("x.put(1, (byte) 7)", x.put(1, (byte) 7));
        shown("x.put(1, (byte) 9)", x.put(1, (byte) 9));
        shown("x.pack(10)", x.pack(10));
        shown("x.in(1)", x.in(1));
        shown("x.at(1, 1)", x.at(1, 1));
        shown("x.put(1, (byte) 5)", x.put(1, (byte) 5));
        shown("x.change(1)", x.change(1));
        shown("x.put(1, (byte) 5)", x.put(1, (byte) 5));
    }

    private static void writtenByHand() {
        ObjectStreams y = new ObjectStreams();
        shown("y.object(0)", y.object(0));
        shown("y.raw(3, 8)", y.raw(3, 8));
        byte[] bytes = {0, 0, 0, 0, 0, 9, 0, 3, 0, 1, 5, 1, 0};
        for (byte b : bytes) {
            y.add(0, b);
        }
        shown("y.read(0)", y.read(0));
        shown("y.told(ObjectStreams.NONE, 0)", y.told(ObjectStreams.NONE, 0));
        shown("y.told(0, 0)", y.told(0, 0));
        shown("y.told(0, 1)", y.told(0, 1));
        shown("y.told(1, 0)", y.told(1, 0));
        shown("y.told(1, 1)", y.told(1, 1));
        shown("y.row(0, 0, 0)", y.row(0, 0, 0));
        shown("y.size(0)", y.size(0));
        shown("y.raw(0, 0)", y.raw(0, 0));
        shown("y.extend(1, 0)", y.extend(1, 0));
        shown("y.find(9, 1)", y.find(9, 1));
    }

    /** The next line of README.md that makes a call and tells its answer is of this call. */
    private static void shown(String call, int answer) {
        String next = nextLine();
        if (!next.startsWith(call + ";")) {
            CHECK.fault("README.md shows \"" + next + "\", not " + call);
            return;
        }
        String told = next.substring(next.indexOf("//") + 2).trim().split(":")[0];
        CHECK.due(call, answer, Integer.parseInt(told));
    }

    private static String nextLine() {
        for (; line < lines.size(); line++) {
            if (lines.get(line).matches("[xy]\\..*;\\s+// -?\\d+(:.*)?")) {
                return lines.get(line++);
            }
        }
        return "";
    }

    private static void noneLeft() {
        String next = nextLine();
        if (!next.isEmpty()) {
            CHECK.fault("README.md shows \"" + next + "\", which is not tested");
        }
    }
}
