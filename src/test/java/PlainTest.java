final class PlainTest { static void runsNothing() {} }
