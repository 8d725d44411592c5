import java.io.IOException;
import java.nio.file.Files;
import java.nio.file.Path;
import java.util.List;
import java.util.regex.Matcher;
import java.util.regex.Pattern;

/** The example of README.md: its calls are made, and each must give the answer that stands beside it. */
public final class BankKeeperReadme {
    private static final Pattern MAKING = Pattern.compile(".*new BankKeeper\\((\\d+), (\\d+)\\);.*");
    private static final Pattern CALL = Pattern.compile("keeper\\.(\\w+)\\(([^)]*)\\); *// (-?\\w+).*");

    public static void main(String[] args) throws IOException {
        List<String> lines = Files.readAllLines(Path.of("README.md"));
        int first = lines.indexOf("```java") + 1;
        BankKeeper keeper = making(lines.get(first));
        int wrong = 0;
        int calls = 0;
        for (String line : lines.subList(first + 1, lines.size())) {
            if (line.equals("```")) {
                break;
            }
            calls++;
            wrong += holds(keeper, line) ? 0 : 1;
        }
        System.out.println(calls + " calls of README.md made, " + wrong + " wrong");
        if (calls == 0 || wrong > 0) {
            System.exit(1);
        }
    }

    private static BankKeeper making(String line) {
        Matcher found = MAKING.matcher(line);
        if (!found.matches()) {
            throw new IllegalStateException("no keeper is made in: " + line);
        }
        return new BankKeeper(Integer.parseInt(found.group(1)), Integer.parseInt(found.group(2)));
    }

    private static boolean holds(BankKeeper keeper, String line) {
        Matcher found = CALL.matcher(line);
        if (!found.matches()) {
            System.out.println("no call with its answer: " + line);
            return false;
        }
        String got = answer(keeper, found.group(1), found.group(2).split(", "));
        if (!got.equals(found.group(3))) {
            System.out.println(line + " answered " + got);
            return false;
        }
        return true;
    }

    private static String answer(BankKeeper keeper, String name, String[] arguments) {
        int first = Integer.parseInt(arguments[0]);
        long second = arguments.length > 1 ? Long.parseLong(arguments[1].replace("L", "")) : 0L;
        switch (name) {
            case "timing": return String.valueOf(keeper.timing(first, (int) second));
            case "read": return String.valueOf(keeper.read(first));
            case "write": return String.valueOf(keeper.write(first, second));
            case "cycles": return String.valueOf(keeper.cycles(first));
            case "flip": return String.valueOf(keeper.flip(first, (int) second));
            case "status": return String.valueOf(keeper.status(first));
            case "value": return String.valueOf(keeper.value(first));
            case "state": return String.valueOf(keeper.state(first));
            case "command": return String.valueOf(keeper.command(first, (int) second));
            case "bit": return String.valueOf(keeper.bit(first, (int) second));
            default: return "nothing: there is no such call";
        }
    }
}
