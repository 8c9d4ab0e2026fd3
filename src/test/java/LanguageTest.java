final class LanguageTest { static void rule00Nothing() {} }
