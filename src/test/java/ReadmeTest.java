import java.io.IOException;
import java.lang.reflect.InvocationTargetException;
import java.lang.reflect.Method;
import java.nio.file.Files;
import java.nio.file.Path;
import java.util.ArrayList;
import java.util.List;
import java.util.TreeSet;
import java.util.regex.Matcher;
import java.util.regex.Pattern;

/** What README.md shows as answers is what the class answers, and its bounds are the class's. */
public final class ReadmeTest {
    private static final int CALLS_OF_THE_FACE = 15;
    private static final Pattern MADE = Pattern.compile("ZoneThreads x = new ZoneThreads\\((\\d+)\\);");
    private static final Pattern SHOWN = Pattern.compile("x\\.(\\w+)\\((.*)\\); +// (\\w+|-\\d+): .+");
    private static final Pattern ROW = Pattern.compile("\\| `(\\w+)\\(.*\\)` \\| (.*)\\| .+ \\|");
    private static final Pattern NUMBER = Pattern.compile("(\\w+) (?:any|(\\S+) \\.\\. (.+))");

    public static void main(String[] args) throws IOException {
        List<String> lines = Files.readAllLines(Path.of("README.md"));
        answersAreAsShown(lines);
        boundsAreAsShown(lines);
        Check.end();
    }

    private static void answersAreAsShown(List<String> lines) {
        TreeSet<String> shown = new TreeSet<>();
        ZoneThreads x = null;
        int end = lines.lastIndexOf("```");
        for (String line : lines.subList(lines.indexOf("```java") + 1, end)) {
            Matcher made = MADE.matcher(line);
            Matcher call = SHOWN.matcher(line);
            if (made.matches()) {
                x = new ZoneThreads(Integer.parseInt(made.group(1)));
            } else if (call.matches() && x != null) {
                shown.add(call.group(1));
                ZoneThreads object = x;
                String answer = call.group(3).replace("NONE", "-1");
                String due = answer.endsWith("Exception") ? "throws." + answer : answer;
                Check.due("README: " + line, due, () -> called(object, call.group(1), numbers(call.group(2))));
            } else {
                Check.due("README: " + line, "a call with its answer", () -> "neither");
            }
        }
        Check.due("README: every call is shown", CALLS_OF_THE_FACE, shown::size);
    }

    private static List<Object> numbers(String text) {
        List<Object> numbers = new ArrayList<>();
        for (String part : text.isEmpty() ? new String[0] : text.split(", ")) {
            if (part.equals("true") || part.equals("false")) {
                numbers.add(part.equals("true"));
            } else {
                numbers.add(Integer.parseInt(part.replace("ZoneThreads.NONE", "-1")));
            }
        }
        return numbers;
    }

    private static Object called(ZoneThreads x, String name, List<Object> numbers) {
        for (Method method : ZoneThreads.class.getMethods()) {
            if (method.getName().equals(name) && method.getParameterCount() == numbers.size()) {
                return answer(x, method, numbers);
            }
        }
        return "no such call";
    }

    private static Object answer(ZoneThreads x, Method method, List<Object> numbers) {
        try {
            return method.invoke(x, numbers.toArray());
        } catch (InvocationTargetException e) {
            return "throws." + e.getCause().getClass().getSimpleName();
        } catch (IllegalAccessException e) {
            return "not public";
        }
    }

    private static void boundsAreAsShown(List<String> lines) {
        TreeSet<String> shown = new TreeSet<>();
        for (String line : lines) {
            Matcher row = ROW.matcher(line);
            if (row.matches()) {
                shown.add(row.group(1));
                boundsOfOneCall(row.group(1), row.group(2).trim());
            }
        }
        Check.due("README: every call's bounds", CALLS_OF_THE_FACE, shown::size);
    }

    private static void boundsOfOneCall(String name, String text) {
        String[] parts = text.isEmpty() ? new String[0] : text.split(", ");
        List<Object> legal = new ArrayList<>();
        for (int place = 0; place < parts.length; place++) {
            // A wall's two zones are neither each other nor at a bound, so that either can be put there.
            legal.add(name.equals("wall") && place < 2 ? 2 + place : least(parts[place]));
        }
        if (name.equals("fails")) {
            legal.add(true);
        }
        answered(name, legal);
        for (int place = 0; place < parts.length; place++) {
            boundsOfOneNumber(name, legal, place, parts[place]);
        }
    }

    private static void boundsOfOneNumber(String name, List<Object> legal, int place, String part) {
        answered(name, with(legal, place, least(part)));
        answered(name, with(legal, place, most(part)));
        if (!part.endsWith(" any")) {
            refused(name, with(legal, place, least(part) - 1));
            refused(name, with(legal, place, most(part) + 1));
        }
    }

    private static int least(String part) {
        return bound(part, 2, Integer.MIN_VALUE);
    }

    private static int most(String part) {
        return bound(part, 3, Integer.MAX_VALUE);
    }

    private static int bound(String part, int group, int any) {
        Matcher number = NUMBER.matcher(part);
        if (!number.matches()) {
            Check.due("README: " + part, "a number with its bounds", () -> "none");
            return any;
        }
        if (number.group(group) == null) {
            return any;
        }
        return switch (number.group(group)) {
            case "NONE" -> -1;
            case "Z - 1" -> 4;
            case "lines - 1" -> 9;
            case "jobs - 1" -> 2;
            default -> Integer.parseInt(number.group(group));
        };
    }

    private static List<Object> with(List<Object> numbers, int place, int number) {
        List<Object> changed = new ArrayList<>(numbers);
        changed.set(place, number);
        return changed;
    }

    /** 5 zones, 10 lines and 3 jobs, as bound() says. */
    private static ZoneThreads inUse() {
        ZoneThreads x = new ZoneThreads(5);
        x.run(2, 1, 2);
        x.job(1);
        x.job(2);
        x.job(3);
        return x;
    }

    private static void answered(String name, List<Object> numbers) {
        String heard = String.valueOf(called(inUse(), name, numbers));
        Check.due("README: " + name + numbers + " answered " + heard, true,
                () -> heard.matches("-?\\d+|true|false"));
    }

    private static void refused(String name, List<Object> numbers) {
        Check.due("README: " + name + numbers, "throws.IllegalArgumentException", () -> called(inUse(), name, numbers));
    }
}
