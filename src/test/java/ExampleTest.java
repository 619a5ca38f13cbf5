import java.io.IOException;
import java.nio.file.Files;
import java.nio.file.Path;
import java.util.List;

/** The example in README.md, line by line: each call answers what its comment there says. */
final class ExampleTest {
    private static List<String> readme = List.of();
    private static int at = 0;

    public static void main(String[] args) throws IOException {
        readme = Files.readAllLines(Path.of("README.md"));
        CoilBench x = new CoilBench();
        String text = "relay A 2 3 make;key k;lamp l;wire plus k.1 A.1;wire k.2 A.p;" + "wire A.1+ l.1;wire minus A.n l.2;";
        Check.feed(x, text);
        told("x.load(text.length())", x.load(text.length()));
        told("x.wrong(0)", x.wrong(0));
        told("x.count(5)", x.count(5));
        told("x.letter(1, 0, 0)", x.letter(1, 0, 0));
        told("x.key(0, true)", x.key(0, true));
        told("x.relay(0, 2)", x.relay(0, 2));
        told("x.tick(1)", x.tick(1));
        told("x.relay(0, 1)", x.relay(0, 1));
        told("x.lamp(0)", x.lamp(0));
        told("x.tick(1)", x.tick(1));
        told("x.relay(0, 0)", x.relay(0, 0));
        told("x.contact(0, 1)", x.contact(0, 1));
        told("x.lamp(0)", x.lamp(0));
        told("x.net(0, 0, 3)", x.net(0, 0, 3));
        told("x.dust(0, 1, true)", x.dust(0, 1, true));
        told("x.lamp(0)", x.lamp(0));
        told("x.dust(0, 1, false)", x.dust(0, 1, false));
        told("x.stuck(0, 1, 0)", x.stuck(0, 1, 0));
        told("x.quiet()", x.quiet());
        told("x.count(6)", x.count(6));
        told("x.back(3)", x.back(3));
        told("x.race(8)", x.race(8));
        told("x.adder(7)", x.adder(7));
        skipToCall();
        Check.due("README.md's example ends there", at, readme.size());
        Check.end("ExampleTest");
    }

    /** On to the next line of the example that tells an answer. */
    private static void skipToCall() {
        while (at < readme.size() && !readme.get(at).matches("x\\..*; +// .*")) {
            at++;
        }
    }

    private static void told(String call, Object answer) {
        skipToCall();
        String line = at < readme.size() ? readme.get(at) : "(the end)";
        String[] halves = line.split("; +// ");
        boolean isTold = halves.length == 2 && halves[0].equals(call) && halves[1].split(" ")[0].equals(answer.toString());
        Check.due(call + " answered " + answer + ", README.md tells: " + line + ": which", isTold, true);
        at++;
    }
}
